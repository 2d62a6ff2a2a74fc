theorem dX0_init_0 : decode cX0_init 0 = .ok (.aload_n 0, 1) := by decide +kernel
theorem dX0_init_1 : decode cX0_init 1 = .ok (.invokespecial 3, 3) := by decide +kernel
theorem dX0_init_4 : decode cX0_init 4 = .ok (.aload_n 0, 1) := by decide +kernel
theorem dX0_init_5 : decode cX0_init 5 = .ok (.new 9, 3) := by decide +kernel
theorem dX0_init_8 : decode cX0_init 8 = .ok (.dup, 1) := by decide +kernel
theorem dX0_init_9 : decode cX0_init 9 = .ok (.invokespecial 11, 3) := by decide +kernel
theorem dX0_init_12 : decode cX0_init 12 = .ok (.putfield 12, 3) := by decide +kernel
theorem dX0_init_15 : decode cX0_init 15 = .ok (.return_, 1) := by decide +kernel
set_option maxRecDepth 20000 in
theorem ggX0_refusal_X8_within : GoodIn wsX0_refusal wsX8_within := goodIn_r _ [5] (by decide +kernel) (by decide +kernel)
set_option maxRecDepth 20000 in
theorem gX0_refusal_X8_within_n22 : GoodIn wsX0_refusal (wsX8_within) := ggX0_refusal_X8_within
theorem dX0_refusal_0 : decode cX0_refusal 0 = .ok (.iload_n 2, 1) := by decide +kernel
theorem dX0_refusal_1 : decode cX0_refusal 1 = .ok (.sipush (-4000), 3) := by decide +kernel
theorem dX0_refusal_4 : decode cX0_refusal 4 = .ok (.sipush 4000, 3) := by decide +kernel
theorem dX0_refusal_7 : decode cX0_refusal 7 = .ok (.invokestatic 22, 3) := by decide +kernel
theorem dX0_refusal_10 : decode cX0_refusal 10 = .ok (.ifCond .ne 6, 3) := by decide +kernel
theorem dX0_refusal_13 : decode cX0_refusal 13 = .ok (.ldc 26, 2) := by decide +kernel
theorem dX0_refusal_15 : decode cX0_refusal 15 = .ok (.ireturn, 1) := by decide +kernel
theorem dX0_refusal_16 : decode cX0_refusal 16 = .ok (.aload_n 1, 1) := by decide +kernel
theorem dX0_refusal_17 : decode cX0_refusal 17 = .ok (.getfield 27, 3) := by decide +kernel
theorem dX0_refusal_20 : decode cX0_refusal 20 = .ok (.ifCond .eq 23, 3) := by decide +kernel
theorem dX0_refusal_23 : decode cX0_refusal 23 = .ok (.iload_n 2, 1) := by decide +kernel
theorem dX0_refusal_24 : decode cX0_refusal 24 = .ok (.aload_n 1, 1) := by decide +kernel
theorem dX0_refusal_25 : decode cX0_refusal 25 = .ok (.getfield 33, 3) := by decide +kernel
theorem dX0_refusal_28 : decode cX0_refusal 28 = .ok (.aload_n 1, 1) := by decide +kernel
theorem dX0_refusal_29 : decode cX0_refusal 29 = .ok (.getfield 37, 3) := by decide +kernel
theorem dX0_refusal_32 : decode cX0_refusal 32 = .ok (.invokestatic 22, 3) := by decide +kernel
theorem dX0_refusal_35 : decode cX0_refusal 35 = .ok (.ifCond .ne 8, 3) := by decide +kernel
theorem dX0_refusal_38 : decode cX0_refusal 38 = .ok (.ldc 40, 2) := by decide +kernel
theorem dX0_refusal_40 : decode cX0_refusal 40 = .ok (.goto 4, 3) := by decide +kernel
theorem dX0_refusal_43 : decode cX0_refusal 43 = .ok (.iconst 0, 1) := by decide +kernel
theorem dX0_refusal_44 : decode cX0_refusal 44 = .ok (.ireturn, 1) := by decide +kernel
set_option maxRecDepth 20000 in
theorem ggX0_goTo_X0_refusal : GoodIn wsX0_goTo wsX0_refusal := goodIn_r _ [10, 11, 12, 13, 14, 15, 101, 102, 103, 104, 105, 106, 107, 108, 109, 110, 111, 112, 113] (by decide +kernel) (by decide +kernel)
set_option maxRecDepth 20000 in
theorem gX0_goTo_X0_refusal : GoodIn wsX0_goTo (wsV RX0 41 RX0 yX0_refusal wsX0_refusal) := goodIn_app (goodIn_of _ (by decide +kernel)) ggX0_goTo_X0_refusal
set_option maxRecDepth 20000 in
theorem ggX0_goTo_X4_build : GoodIn wsX0_goTo wsX4_build := goodIn_r _ [20, 21, 22, 4, 23, 24, 25, 26, 27, 28, 29, 30, 31, 101, 102, 103, 104, 105, 106, 107, 108, 109, 110, 111, 112, 113, 114, 115, 116, 117, 118] (by decide +kernel) (by decide +kernel)
set_option maxRecDepth 20000 in
theorem gX0_goTo_X4_build : GoodIn wsX0_goTo (wsV RX0 18 RX4 yX4_build wsX4_build) := goodIn_app (goodIn_of _ (by decide +kernel)) ggX0_goTo_X4_build
set_option maxRecDepth 20000 in
theorem ggX0_goTo_X0_directionTo : GoodIn wsX0_goTo wsX0_directionTo := goodIn_r _ [34] (by decide +kernel) (by decide +kernel)
set_option maxRecDepth 20000 in
theorem gX0_goTo_X0_directionTo : GoodIn wsX0_goTo (va_wsS RX0 57 yX0_directionTo wsX0_directionTo) := goodIn_app (goodIn_of _ (by decide +kernel)) ggX0_goTo_X0_directionTo
set_option maxRecDepth 20000 in
theorem ggX0_goTo_X4_indexOf : GoodIn wsX0_goTo wsX4_indexOf := goodIn_r _ [38, 28, 21, 22, 4, 23, 114, 115, 116, 117, 118] (by decide +kernel) (by decide +kernel)
set_option maxRecDepth 20000 in
theorem gX0_goTo_X4_indexOf : GoodIn wsX0_goTo (wsV RX0 61 RX4 yX4_indexOf wsX4_indexOf) := goodIn_app (goodIn_of _ (by decide +kernel)) ggX0_goTo_X4_indexOf
set_option maxRecDepth 20000 in
theorem ggX0_goTo_X4_interval : GoodIn wsX0_goTo wsX4_interval := goodIn_r _ [42, 24, 13, 14, 15, 114, 115, 116, 117, 118] (by decide +kernel) (by decide +kernel)
set_option maxRecDepth 20000 in
theorem gX0_goTo_X4_interval : GoodIn wsX0_goTo (wsV RX0 64 RX4 yX4_interval wsX4_interval) := goodIn_app (goodIn_of _ (by decide +kernel)) ggX0_goTo_X4_interval
set_option maxRecDepth 20000 in
theorem ggX0_goTo_X4_pull : GoodIn wsX0_goTo wsX4_pull := goodIn_r _ [46, 26, 13, 14, 15, 114, 115, 116, 117, 118] (by decide +kernel) (by decide +kernel)
set_option maxRecDepth 20000 in
theorem gX0_goTo_X4_pull : GoodIn wsX0_goTo (wsV RX0 67 RX4 yX4_pull wsX4_pull) := goodIn_app (goodIn_of _ (by decide +kernel)) ggX0_goTo_X4_pull
set_option maxRecDepth 20000 in
theorem ggX0_goTo_X7_takeStep : GoodIn wsX0_goTo wsX7_takeStep := goodIn_r _ [51, 52, 53, 54, 55, 56, 57, 58, 59, 14, 60, 61, 62, 63, 64, 65, 66, 67, 68, 69, 70, 71, 72, 50, 73, 74, 75, 101, 102, 103, 104, 105, 106, 107, 108, 109, 110, 111, 112, 113, 119, 120, 121, 122] (by decide +kernel) (by decide +kernel)
set_option maxRecDepth 20000 in
theorem gX0_goTo_X7_takeStep : GoodIn wsX0_goTo (wsV RX0 70 RX7 yX7_takeStep wsX7_takeStep) := goodIn_app (goodIn_of _ (by decide +kernel)) ggX0_goTo_X7_takeStep
set_option maxRecDepth 20000 in
theorem ggX0_goTo_X4_time : GoodIn wsX0_goTo wsX4_time := goodIn_r _ [79, 28, 21, 22, 4, 23, 80, 81, 82, 19, 83, 27, 13, 14, 15, 84, 40, 41, 42, 24, 114, 115, 116, 117, 118] (by decide +kernel) (by decide +kernel)
set_option maxRecDepth 20000 in
theorem gX0_goTo_X4_time : GoodIn wsX0_goTo (wsV RX0 78 RX4 yX4_time wsX4_time) := goodIn_app (goodIn_of _ (by decide +kernel)) ggX0_goTo_X4_time
set_option maxRecDepth 20000 in
theorem ggX0_goTo_X4_greatestIndex : GoodIn wsX0_goTo wsX4_greatestIndex := goodIn_r _ [88, 28, 21, 22, 4, 23, 114, 115, 116, 117, 118] (by decide +kernel) (by decide +kernel)
set_option maxRecDepth 20000 in
theorem gX0_goTo_X4_greatestIndex : GoodIn wsX0_goTo (wsV RX0 81 RX4 yX4_greatestIndex wsX4_greatestIndex) := goodIn_app (goodIn_of _ (by decide +kernel)) ggX0_goTo_X4_greatestIndex
set_option maxRecDepth 20000 in
theorem ggX0_goTo_X3_keep : GoodIn wsX0_goTo wsX3_keep := goodIn_r _ [93, 94, 95, 96, 97, 98, 99, 123, 124] (by decide +kernel) (by decide +kernel)
set_option maxRecDepth 20000 in
theorem gX0_goTo_X3_keep : GoodIn wsX0_goTo (wsV RX0 84 RX3 yX3_keep wsX3_keep) := goodIn_app (goodIn_of _ (by decide +kernel)) ggX0_goTo_X3_keep
theorem dX0_goTo_0 : decode cX0_goTo 0 = .ok (.aload_n 0, 1) := by decide +kernel
theorem dX0_goTo_1 : decode cX0_goTo 1 = .ok (.aload_n 1, 1) := by decide +kernel
theorem dX0_goTo_2 : decode cX0_goTo 2 = .ok (.iload_n 2, 1) := by decide +kernel
theorem dX0_goTo_3 : decode cX0_goTo 3 = .ok (.invokevirtual 41, 3) := by decide +kernel
theorem dX0_goTo_6 : decode cX0_goTo 6 = .ok (.istore_n 3, 1) := by decide +kernel
theorem dX0_goTo_7 : decode cX0_goTo 7 = .ok (.iload_n 3, 1) := by decide +kernel
theorem dX0_goTo_8 : decode cX0_goTo 8 = .ok (.ifCond .eq 5, 3) := by decide +kernel
theorem dX0_goTo_11 : decode cX0_goTo 11 = .ok (.iload_n 3, 1) := by decide +kernel
theorem dX0_goTo_12 : decode cX0_goTo 12 = .ok (.ireturn, 1) := by decide +kernel
theorem dX0_goTo_13 : decode cX0_goTo 13 = .ok (.aload_n 0, 1) := by decide +kernel
theorem dX0_goTo_14 : decode cX0_goTo 14 = .ok (.getfield 12, 3) := by decide +kernel
theorem dX0_goTo_17 : decode cX0_goTo 17 = .ok (.aload_n 1, 1) := by decide +kernel
theorem dX0_goTo_18 : decode cX0_goTo 18 = .ok (.invokevirtual 18, 3) := by decide +kernel
theorem dX0_goTo_21 : decode cX0_goTo 21 = .ok (.aload_n 1, 1) := by decide +kernel
theorem dX0_goTo_22 : decode cX0_goTo 22 = .ok (.getfield 45, 3) := by decide +kernel
theorem dX0_goTo_25 : decode cX0_goTo 25 = .ok (.istore 4, 2) := by decide +kernel
theorem dX0_goTo_27 : decode cX0_goTo 27 = .ok (.aload_n 1, 1) := by decide +kernel
theorem dX0_goTo_28 : decode cX0_goTo 28 = .ok (.getfield 48, 3) := by decide +kernel
theorem dX0_goTo_31 : decode cX0_goTo 31 = .ok (.istore 5, 2) := by decide +kernel
theorem dX0_goTo_33 : decode cX0_goTo 33 = .ok (.iload_n 2, 1) := by decide +kernel
theorem dX0_goTo_34 : decode cX0_goTo 34 = .ok (.iload 4, 2) := by decide +kernel
theorem dX0_goTo_36 : decode cX0_goTo 36 = .ok (.isub, 1) := by decide +kernel
theorem dX0_goTo_37 : decode cX0_goTo 37 = .ok (.invokestatic 51, 3) := by decide +kernel
theorem dX0_goTo_40 : decode cX0_goTo 40 = .ok (.istore 6, 2) := by decide +kernel
theorem dX0_goTo_42 : decode cX0_goTo 42 = .ok (.iload 4, 2) := by decide +kernel
theorem dX0_goTo_44 : decode cX0_goTo 44 = .ok (.iload_n 2, 1) := by decide +kernel
theorem dX0_goTo_45 : decode cX0_goTo 45 = .ok (.invokestatic 57, 3) := by decide +kernel
theorem dX0_goTo_48 : decode cX0_goTo 48 = .ok (.istore 7, 2) := by decide +kernel
theorem dX0_goTo_50 : decode cX0_goTo 50 = .ok (.iconst 0, 1) := by decide +kernel
theorem dX0_goTo_51 : decode cX0_goTo 51 = .ok (.istore 8, 2) := by decide +kernel
theorem dX0_goTo_53 : decode cX0_goTo 53 = .ok (.iload 8, 2) := by decide +kernel
theorem dX0_goTo_55 : decode cX0_goTo 55 = .ok (.iload 6, 2) := by decide +kernel
theorem dX0_goTo_57 : decode cX0_goTo 57 = .ok (.if_icmp .ge 46, 3) := by decide +kernel
theorem dX0_goTo_60 : decode cX0_goTo 60 = .ok (.aload_n 0, 1) := by decide +kernel
theorem dX0_goTo_61 : decode cX0_goTo 61 = .ok (.getfield 12, 3) := by decide +kernel
theorem dX0_goTo_64 : decode cX0_goTo 64 = .ok (.iload 8, 2) := by decide +kernel
theorem dX0_goTo_66 : decode cX0_goTo 66 = .ok (.iload 6, 2) := by decide +kernel
theorem dX0_goTo_68 : decode cX0_goTo 68 = .ok (.invokevirtual 61, 3) := by decide +kernel
theorem dX0_goTo_71 : decode cX0_goTo 71 = .ok (.istore 9, 2) := by decide +kernel
theorem dX0_goTo_73 : decode cX0_goTo 73 = .ok (.aload_n 1, 1) := by decide +kernel
theorem dX0_goTo_74 : decode cX0_goTo 74 = .ok (.iload 7, 2) := by decide +kernel
theorem dX0_goTo_76 : decode cX0_goTo 76 = .ok (.aload_n 0, 1) := by decide +kernel
theorem dX0_goTo_77 : decode cX0_goTo 77 = .ok (.getfield 12, 3) := by decide +kernel
theorem dX0_goTo_80 : decode cX0_goTo 80 = .ok (.iload 9, 2) := by decide +kernel
theorem dX0_goTo_82 : decode cX0_goTo 82 = .ok (.invokevirtual 64, 3) := by decide +kernel
theorem dX0_goTo_85 : decode cX0_goTo 85 = .ok (.aload_n 0, 1) := by decide +kernel
theorem dX0_goTo_86 : decode cX0_goTo 86 = .ok (.getfield 12, 3) := by decide +kernel
theorem dX0_goTo_89 : decode cX0_goTo 89 = .ok (.iload 9, 2) := by decide +kernel
theorem dX0_goTo_91 : decode cX0_goTo 91 = .ok (.invokevirtual 67, 3) := by decide +kernel
theorem dX0_goTo_94 : decode cX0_goTo 94 = .ok (.invokevirtual 70, 3) := by decide +kernel
theorem dX0_goTo_97 : decode cX0_goTo 97 = .ok (.iinc 8 1, 3) := by decide +kernel
theorem dX0_goTo_100 : decode cX0_goTo 100 = .ok (.goto (-47), 3) := by decide +kernel
theorem dX0_goTo_103 : decode cX0_goTo 103 = .ok (.aload_n 1, 1) := by decide +kernel
theorem dX0_goTo_104 : decode cX0_goTo 104 = .ok (.getfield 48, 3) := by decide +kernel
theorem dX0_goTo_107 : decode cX0_goTo 107 = .ok (.iload 5, 2) := by decide +kernel
theorem dX0_goTo_109 : decode cX0_goTo 109 = .ok (.isub, 1) := by decide +kernel
theorem dX0_goTo_110 : decode cX0_goTo 110 = .ok (.istore 8, 2) := by decide +kernel
theorem dX0_goTo_112 : decode cX0_goTo 112 = .ok (.aload_n 1, 1) := by decide +kernel
theorem dX0_goTo_113 : decode cX0_goTo 113 = .ok (.getfield 74, 3) := by decide +kernel
theorem dX0_goTo_116 : decode cX0_goTo 116 = .ok (.iload 4, 2) := by decide +kernel
theorem dX0_goTo_118 : decode cX0_goTo 118 = .ok (.iload_n 2, 1) := by decide +kernel
theorem dX0_goTo_119 : decode cX0_goTo 119 = .ok (.iload 8, 2) := by decide +kernel
theorem dX0_goTo_121 : decode cX0_goTo 121 = .ok (.aload_n 0, 1) := by decide +kernel
theorem dX0_goTo_122 : decode cX0_goTo 122 = .ok (.getfield 12, 3) := by decide +kernel
theorem dX0_goTo_125 : decode cX0_goTo 125 = .ok (.iload 6, 2) := by decide +kernel
theorem dX0_goTo_127 : decode cX0_goTo 127 = .ok (.invokevirtual 78, 3) := by decide +kernel
theorem dX0_goTo_130 : decode cX0_goTo 130 = .ok (.aload_n 0, 1) := by decide +kernel
theorem dX0_goTo_131 : decode cX0_goTo 131 = .ok (.getfield 12, 3) := by decide +kernel
theorem dX0_goTo_134 : decode cX0_goTo 134 = .ok (.iload 6, 2) := by decide +kernel
theorem dX0_goTo_136 : decode cX0_goTo 136 = .ok (.invokevirtual 81, 3) := by decide +kernel
theorem dX0_goTo_139 : decode cX0_goTo 139 = .ok (.invokevirtual 84, 3) := by decide +kernel
theorem dX0_goTo_142 : decode cX0_goTo 142 = .ok (.iload 8, 2) := by decide +kernel
theorem dX0_goTo_144 : decode cX0_goTo 144 = .ok (.ireturn, 1) := by decide +kernel
set_option maxRecDepth 20000 in
theorem ggX0_goBy_X8_within : GoodIn wsX0_goBy wsX8_within := goodIn_r _ [5] (by decide +kernel) (by decide +kernel)
set_option maxRecDepth 20000 in
theorem gX0_goBy_X8_within_n22 : GoodIn wsX0_goBy (wsX8_within) := ggX0_goBy_X8_within
set_option maxRecDepth 20000 in
theorem ggX0_goBy_X0_goTo : GoodIn wsX0_goBy wsX0_goTo := goodIn_r _ [10, 11, 12, 13, 14, 15, 16, 17, 18, 9, 19, 1, 2, 3, 4, 5, 20, 21, 22, 23, 24, 25, 26, 27, 28, 29, 30, 31, 32, 33, 34, 35, 36, 37, 38, 39, 40, 41, 42, 43, 44, 45, 46, 47, 48, 49, 50, 51, 52, 53, 54, 55, 56, 57, 58, 59, 60, 61, 62, 63, 64, 65, 66, 67, 68, 69, 70, 71, 72, 73, 74, 75, 76, 77, 78, 79, 80, 81, 82, 83, 84, 85, 86, 87, 88, 89, 90, 91, 92, 93, 94, 95, 96, 97, 98, 99, 100, 101, 102, 103, 117, 104, 105, 106, 107, 108, 109, 110, 111, 112, 113, 114, 115, 116, 118, 119, 120, 121, 122, 123, 124, 125, 126, 127, 128] (by decide +kernel) (by decide +kernel)
set_option maxRecDepth 20000 in
theorem gX0_goBy_X0_goTo : GoodIn wsX0_goBy (wsV RX0 90 RX0 yX0_goTo wsX0_goTo) := goodIn_app (goodIn_of _ (by decide +kernel)) ggX0_goBy_X0_goTo
theorem dX0_goBy_0 : decode cX0_goBy 0 = .ok (.iload_n 2, 1) := by decide +kernel
theorem dX0_goBy_1 : decode cX0_goBy 1 = .ok (.sipush (-4000), 3) := by decide +kernel
theorem dX0_goBy_4 : decode cX0_goBy 4 = .ok (.sipush 4000, 3) := by decide +kernel
theorem dX0_goBy_7 : decode cX0_goBy 7 = .ok (.invokestatic 22, 3) := by decide +kernel
theorem dX0_goBy_10 : decode cX0_goBy 10 = .ok (.ifCond .ne 6, 3) := by decide +kernel
theorem dX0_goBy_13 : decode cX0_goBy 13 = .ok (.ldc 26, 2) := by decide +kernel
theorem dX0_goBy_15 : decode cX0_goBy 15 = .ok (.ireturn, 1) := by decide +kernel
theorem dX0_goBy_16 : decode cX0_goBy 16 = .ok (.aload_n 1, 1) := by decide +kernel
theorem dX0_goBy_17 : decode cX0_goBy 17 = .ok (.getfield 45, 3) := by decide +kernel
theorem dX0_goBy_20 : decode cX0_goBy 20 = .ok (.iload_n 2, 1) := by decide +kernel
theorem dX0_goBy_21 : decode cX0_goBy 21 = .ok (.iadd, 1) := by decide +kernel
theorem dX0_goBy_22 : decode cX0_goBy 22 = .ok (.istore_n 3, 1) := by decide +kernel
theorem dX0_goBy_23 : decode cX0_goBy 23 = .ok (.iload_n 3, 1) := by decide +kernel
theorem dX0_goBy_24 : decode cX0_goBy 24 = .ok (.sipush (-4000), 3) := by decide +kernel
theorem dX0_goBy_27 : decode cX0_goBy 27 = .ok (.sipush 4000, 3) := by decide +kernel
theorem dX0_goBy_30 : decode cX0_goBy 30 = .ok (.invokestatic 22, 3) := by decide +kernel
theorem dX0_goBy_33 : decode cX0_goBy 33 = .ok (.ifCond .ne 6, 3) := by decide +kernel
theorem dX0_goBy_36 : decode cX0_goBy 36 = .ok (.ldc 40, 2) := by decide +kernel
theorem dX0_goBy_38 : decode cX0_goBy 38 = .ok (.ireturn, 1) := by decide +kernel
theorem dX0_goBy_39 : decode cX0_goBy 39 = .ok (.aload_n 0, 1) := by decide +kernel
theorem dX0_goBy_40 : decode cX0_goBy 40 = .ok (.aload_n 1, 1) := by decide +kernel
theorem dX0_goBy_41 : decode cX0_goBy 41 = .ok (.iload_n 3, 1) := by decide +kernel
theorem dX0_goBy_42 : decode cX0_goBy 42 = .ok (.invokevirtual 90, 3) := by decide +kernel
theorem dX0_goBy_45 : decode cX0_goBy 45 = .ok (.ireturn, 1) := by decide +kernel
set_option maxRecDepth 20000 in
theorem ggX0_seekSwitch_X4_build : GoodIn wsX0_seekSwitch wsX4_build := goodIn_r _ [7, 8, 9, 10, 11, 12, 13, 14, 15, 16, 17, 18, 19, 77, 78, 79, 80, 81, 82, 83, 84, 85, 86, 87, 88, 89, 90, 91, 92, 93, 94] (by decide +kernel) (by decide +kernel)
set_option maxRecDepth 20000 in
theorem gX0_seekSwitch_X4_build : GoodIn wsX0_seekSwitch (wsV RX0 18 RX4 yX4_build wsX4_build) := goodIn_app (goodIn_of _ (by decide +kernel)) ggX0_seekSwitch_X4_build
set_option maxRecDepth 20000 in
theorem ggX0_seekSwitch_X0_runDown : GoodIn wsX0_seekSwitch wsX0_runDown := goodIn_r _ [24, 1, 25, 9, 10, 11, 26, 27, 28, 6, 29, 12, 30, 31, 32, 33, 34, 35, 36, 14, 37, 38, 39, 40, 41, 42, 43, 44, 45, 46, 47, 48, 49, 50, 51, 52, 53, 54, 55, 56, 57, 58, 59, 60, 61, 62, 63, 64, 65, 77, 78, 79, 80, 81, 82, 83, 84, 85, 86, 87, 88, 89, 76, 90, 91, 92, 93, 94, 95, 96, 97, 98] (by decide +kernel) (by decide +kernel)
set_option maxRecDepth 20000 in
theorem gX0_seekSwitch_X0_runDown : GoodIn wsX0_seekSwitch (wsV RX0 129 RX0 yX0_runDown wsX0_runDown) := goodIn_app (goodIn_of _ (by decide +kernel)) ggX0_seekSwitch_X0_runDown
set_option maxRecDepth 20000 in
theorem ggX0_seekSwitch_X0_creep : GoodIn wsX0_seekSwitch wsX0_creep := goodIn_r _ [69, 1, 26, 27, 28, 6, 29, 12, 30, 31, 32, 33, 34, 35, 36, 14, 37, 38, 39, 40, 41, 42, 43, 44, 45, 46, 47, 48, 49, 50, 51, 52, 53, 54, 55, 56, 57, 58, 59, 60, 61, 62, 63, 64, 65, 76, 77, 78, 79, 80, 81, 82, 83, 84, 85, 86, 87, 88, 89, 90, 91, 92, 93, 94, 95, 96, 97, 98] (by decide +kernel) (by decide +kernel)
set_option maxRecDepth 20000 in
theorem gX0_seekSwitch_X0_creep : GoodIn wsX0_seekSwitch (wsV RX0 133 RX0 yX0_creep wsX0_creep) := goodIn_app (goodIn_of _ (by decide +kernel)) ggX0_seekSwitch_X0_creep
set_option maxRecDepth 20000 in
theorem ggX0_seekSwitch_X7_becomeHomed : GoodIn wsX0_seekSwitch wsX7_becomeHomed := goodIn_r _ [73, 43, 74, 42, 75, 77, 78, 79, 80, 81, 82, 83, 84, 85, 86, 87, 88, 89] (by decide +kernel) (by decide +kernel)
set_option maxRecDepth 20000 in
theorem gX0_seekSwitch_X7_becomeHomed : GoodIn wsX0_seekSwitch (wsV RX0 137 RX7 yX7_becomeHomed wsX7_becomeHomed) := goodIn_app (goodIn_of _ (by decide +kernel)) ggX0_seekSwitch_X7_becomeHomed
theorem dX0_seekSwitch_0 : decode cX0_seekSwitch 0 = .ok (.aload_n 0, 1) := by decide +kernel
theorem dX0_seekSwitch_1 : decode cX0_seekSwitch 1 = .ok (.getfield 12, 3) := by decide +kernel
theorem dX0_seekSwitch_4 : decode cX0_seekSwitch 4 = .ok (.aload_n 1, 1) := by decide +kernel
theorem dX0_seekSwitch_5 : decode cX0_seekSwitch 5 = .ok (.invokevirtual 18, 3) := by decide +kernel
theorem dX0_seekSwitch_8 : decode cX0_seekSwitch 8 = .ok (.aload_n 1, 1) := by decide +kernel
theorem dX0_seekSwitch_9 : decode cX0_seekSwitch 9 = .ok (.getfield 123, 3) := by decide +kernel
theorem dX0_seekSwitch_12 : decode cX0_seekSwitch 12 = .ok (.istore_n 2, 1) := by decide +kernel
theorem dX0_seekSwitch_13 : decode cX0_seekSwitch 13 = .ok (.aload_n 1, 1) := by decide +kernel
theorem dX0_seekSwitch_14 : decode cX0_seekSwitch 14 = .ok (.getfield 126, 3) := by decide +kernel
theorem dX0_seekSwitch_17 : decode cX0_seekSwitch 17 = .ok (.ifCond .ne 14, 3) := by decide +kernel
theorem dX0_seekSwitch_20 : decode cX0_seekSwitch 20 = .ok (.aload_n 0, 1) := by decide +kernel
theorem dX0_seekSwitch_21 : decode cX0_seekSwitch 21 = .ok (.aload_n 1, 1) := by decide +kernel
theorem dX0_seekSwitch_22 : decode cX0_seekSwitch 22 = .ok (.invokevirtual 129, 3) := by decide +kernel
theorem dX0_seekSwitch_25 : decode cX0_seekSwitch 25 = .ok (.ifCond .ne 6, 3) := by decide +kernel
theorem dX0_seekSwitch_28 : decode cX0_seekSwitch 28 = .ok (.ldc 40, 2) := by decide +kernel
theorem dX0_seekSwitch_30 : decode cX0_seekSwitch 30 = .ok (.ireturn, 1) := by decide +kernel
theorem dX0_seekSwitch_31 : decode cX0_seekSwitch 31 = .ok (.aload_n 0, 1) := by decide +kernel
theorem dX0_seekSwitch_32 : decode cX0_seekSwitch 32 = .ok (.aload_n 1, 1) := by decide +kernel
theorem dX0_seekSwitch_33 : decode cX0_seekSwitch 33 = .ok (.iconst 1, 1) := by decide +kernel
theorem dX0_seekSwitch_34 : decode cX0_seekSwitch 34 = .ok (.iconst 0, 1) := by decide +kernel
theorem dX0_seekSwitch_35 : decode cX0_seekSwitch 35 = .ok (.invokevirtual 133, 3) := by decide +kernel
theorem dX0_seekSwitch_38 : decode cX0_seekSwitch 38 = .ok (.ifCond .eq 13, 3) := by decide +kernel
theorem dX0_seekSwitch_41 : decode cX0_seekSwitch 41 = .ok (.aload_n 0, 1) := by decide +kernel
theorem dX0_seekSwitch_42 : decode cX0_seekSwitch 42 = .ok (.aload_n 1, 1) := by decide +kernel
theorem dX0_seekSwitch_43 : decode cX0_seekSwitch 43 = .ok (.iconst (-1), 1) := by decide +kernel
theorem dX0_seekSwitch_44 : decode cX0_seekSwitch 44 = .ok (.iconst 1, 1) := by decide +kernel
theorem dX0_seekSwitch_45 : decode cX0_seekSwitch 45 = .ok (.invokevirtual 133, 3) := by decide +kernel
theorem dX0_seekSwitch_48 : decode cX0_seekSwitch 48 = .ok (.ifCond .ne 6, 3) := by decide +kernel
theorem dX0_seekSwitch_51 : decode cX0_seekSwitch 51 = .ok (.ldc 40, 2) := by decide +kernel
theorem dX0_seekSwitch_53 : decode cX0_seekSwitch 53 = .ok (.ireturn, 1) := by decide +kernel
theorem dX0_seekSwitch_54 : decode cX0_seekSwitch 54 = .ok (.aload_n 1, 1) := by decide +kernel
theorem dX0_seekSwitch_55 : decode cX0_seekSwitch 55 = .ok (.invokevirtual 137, 3) := by decide +kernel
theorem dX0_seekSwitch_58 : decode cX0_seekSwitch 58 = .ok (.aload_n 1, 1) := by decide +kernel
theorem dX0_seekSwitch_59 : decode cX0_seekSwitch 59 = .ok (.getfield 123, 3) := by decide +kernel
theorem dX0_seekSwitch_62 : decode cX0_seekSwitch 62 = .ok (.iload_n 2, 1) := by decide +kernel
theorem dX0_seekSwitch_63 : decode cX0_seekSwitch 63 = .ok (.isub, 1) := by decide +kernel
theorem dX0_seekSwitch_64 : decode cX0_seekSwitch 64 = .ok (.ireturn, 1) := by decide +kernel
set_option maxRecDepth 20000 in
theorem ggX0_runDown_X4_interval : GoodIn wsX0_runDown wsX4_interval := goodIn_r _ [10, 11, 12, 13, 14, 63, 64, 65, 66, 67] (by decide +kernel) (by decide +kernel)
set_option maxRecDepth 20000 in
theorem gX0_runDown_X4_interval : GoodIn wsX0_runDown (wsV RX0 64 RX4 yX4_interval wsX4_interval) := goodIn_app (goodIn_of _ (by decide +kernel)) ggX0_runDown_X4_interval
set_option maxRecDepth 20000 in
theorem ggX0_runDown_X4_pull : GoodIn wsX0_runDown wsX4_pull := goodIn_r _ [18, 19, 12, 13, 14, 63, 64, 65, 66, 67] (by decide +kernel) (by decide +kernel)
set_option maxRecDepth 20000 in
theorem gX0_runDown_X4_pull : GoodIn wsX0_runDown (wsV RX0 67 RX4 yX4_pull wsX4_pull) := goodIn_app (goodIn_of _ (by decide +kernel)) ggX0_runDown_X4_pull
set_option maxRecDepth 20000 in
theorem ggX0_runDown_X7_takeStep : GoodIn wsX0_runDown wsX7_takeStep := goodIn_r _ [24, 25, 26, 27, 28, 29, 30, 31, 32, 13, 33, 34, 35, 36, 37, 38, 39, 40, 41, 42, 43, 44, 45, 23, 46, 47, 48, 49, 50, 51, 52, 53, 54, 55, 56, 57, 58, 59, 60, 61, 68, 69, 70, 71] (by decide +kernel) (by decide +kernel)
set_option maxRecDepth 20000 in
theorem gX0_runDown_X7_takeStep : GoodIn wsX0_runDown (wsV RX0 70 RX7 yX7_takeStep wsX7_takeStep) := goodIn_app (goodIn_of _ (by decide +kernel)) ggX0_runDown_X7_takeStep
theorem dX0_runDown_0 : decode cX0_runDown 0 = .ok (.aload_n 1, 1) := by decide +kernel
theorem dX0_runDown_1 : decode cX0_runDown 1 = .ok (.getfield 119, 3) := by decide +kernel
theorem dX0_runDown_4 : decode cX0_runDown 4 = .ok (.bipush 7, 2) := by decide +kernel
theorem dX0_runDown_6 : decode cX0_runDown 6 = .ok (.iaload, 1) := by decide +kernel
theorem dX0_runDown_7 : decode cX0_runDown 7 = .ok (.aload_n 0, 1) := by decide +kernel
theorem dX0_runDown_8 : decode cX0_runDown 8 = .ok (.getfield 12, 3) := by decide +kernel
theorem dX0_runDown_11 : decode cX0_runDown 11 = .ok (.getfield 110, 3) := by decide +kernel
theorem dX0_runDown_14 : decode cX0_runDown 14 = .ok (.invokestatic 113, 3) := by decide +kernel
theorem dX0_runDown_17 : decode cX0_runDown 17 = .ok (.istore_n 2, 1) := by decide +kernel
theorem dX0_runDown_18 : decode cX0_runDown 18 = .ok (.iconst 0, 1) := by decide +kernel
theorem dX0_runDown_19 : decode cX0_runDown 19 = .ok (.istore_n 3, 1) := by decide +kernel
theorem dX0_runDown_20 : decode cX0_runDown 20 = .ok (.iconst 0, 1) := by decide +kernel
theorem dX0_runDown_21 : decode cX0_runDown 21 = .ok (.istore 4, 2) := by decide +kernel
theorem dX0_runDown_23 : decode cX0_runDown 23 = .ok (.iload 4, 2) := by decide +kernel
theorem dX0_runDown_25 : decode cX0_runDown 25 = .ok (.sipush 4000, 3) := by decide +kernel
theorem dX0_runDown_28 : decode cX0_runDown 28 = .ok (.if_icmp .ge 44, 3) := by decide +kernel
theorem dX0_runDown_31 : decode cX0_runDown 31 = .ok (.aload_n 1, 1) := by decide +kernel
theorem dX0_runDown_32 : decode cX0_runDown 32 = .ok (.getfield 126, 3) := by decide +kernel
theorem dX0_runDown_35 : decode cX0_runDown 35 = .ok (.ifCond .ne 37, 3) := by decide +kernel
theorem dX0_runDown_38 : decode cX0_runDown 38 = .ok (.iload 4, 2) := by decide +kernel
theorem dX0_runDown_40 : decode cX0_runDown 40 = .ok (.iload_n 2, 1) := by decide +kernel
theorem dX0_runDown_41 : decode cX0_runDown 41 = .ok (.invokestatic 113, 3) := by decide +kernel
theorem dX0_runDown_44 : decode cX0_runDown 44 = .ok (.istore_n 3, 1) := by decide +kernel
theorem dX0_runDown_45 : decode cX0_runDown 45 = .ok (.aload_n 1, 1) := by decide +kernel
theorem dX0_runDown_46 : decode cX0_runDown 46 = .ok (.iconst (-1), 1) := by decide +kernel
theorem dX0_runDown_47 : decode cX0_runDown 47 = .ok (.aload_n 0, 1) := by decide +kernel
theorem dX0_runDown_48 : decode cX0_runDown 48 = .ok (.getfield 12, 3) := by decide +kernel
theorem dX0_runDown_51 : decode cX0_runDown 51 = .ok (.iload_n 3, 1) := by decide +kernel
theorem dX0_runDown_52 : decode cX0_runDown 52 = .ok (.invokevirtual 64, 3) := by decide +kernel
theorem dX0_runDown_55 : decode cX0_runDown 55 = .ok (.aload_n 0, 1) := by decide +kernel
theorem dX0_runDown_56 : decode cX0_runDown 56 = .ok (.getfield 12, 3) := by decide +kernel
theorem dX0_runDown_59 : decode cX0_runDown 59 = .ok (.iload_n 3, 1) := by decide +kernel
theorem dX0_runDown_60 : decode cX0_runDown 60 = .ok (.invokevirtual 67, 3) := by decide +kernel
theorem dX0_runDown_63 : decode cX0_runDown 63 = .ok (.invokevirtual 70, 3) := by decide +kernel
theorem dX0_runDown_66 : decode cX0_runDown 66 = .ok (.iinc 4 1, 3) := by decide +kernel
theorem dX0_runDown_69 : decode cX0_runDown 69 = .ok (.goto (-46), 3) := by decide +kernel
theorem dX0_runDown_72 : decode cX0_runDown 72 = .ok (.aload_n 1, 1) := by decide +kernel
theorem dX0_runDown_73 : decode cX0_runDown 73 = .ok (.getfield 126, 3) := by decide +kernel
theorem dX0_runDown_76 : decode cX0_runDown 76 = .ok (.ifCond .ne 5, 3) := by decide +kernel
theorem dX0_runDown_79 : decode cX0_runDown 79 = .ok (.iconst 0, 1) := by decide +kernel
theorem dX0_runDown_80 : decode cX0_runDown 80 = .ok (.ireturn, 1) := by decide +kernel
theorem dX0_runDown_81 : decode cX0_runDown 81 = .ok (.iload_n 3, 1) := by decide +kernel
theorem dX0_runDown_82 : decode cX0_runDown 82 = .ok (.iconst 1, 1) := by decide +kernel
theorem dX0_runDown_83 : decode cX0_runDown 83 = .ok (.isub, 1) := by decide +kernel
theorem dX0_runDown_84 : decode cX0_runDown 84 = .ok (.istore 4, 2) := by decide +kernel
theorem dX0_runDown_86 : decode cX0_runDown 86 = .ok (.iload 4, 2) := by decide +kernel
theorem dX0_runDown_88 : decode cX0_runDown 88 = .ok (.ifCond .lt 32, 3) := by decide +kernel
theorem dX0_runDown_91 : decode cX0_runDown 91 = .ok (.aload_n 1, 1) := by decide +kernel
theorem dX0_runDown_92 : decode cX0_runDown 92 = .ok (.iconst (-1), 1) := by decide +kernel
theorem dX0_runDown_93 : decode cX0_runDown 93 = .ok (.aload_n 0, 1) := by decide +kernel
theorem dX0_runDown_94 : decode cX0_runDown 94 = .ok (.getfield 12, 3) := by decide +kernel
theorem dX0_runDown_97 : decode cX0_runDown 97 = .ok (.iload 4, 2) := by decide +kernel
theorem dX0_runDown_99 : decode cX0_runDown 99 = .ok (.invokevirtual 64, 3) := by decide +kernel
theorem dX0_runDown_102 : decode cX0_runDown 102 = .ok (.aload_n 0, 1) := by decide +kernel
theorem dX0_runDown_103 : decode cX0_runDown 103 = .ok (.getfield 12, 3) := by decide +kernel
theorem dX0_runDown_106 : decode cX0_runDown 106 = .ok (.iload 4, 2) := by decide +kernel
theorem dX0_runDown_108 : decode cX0_runDown 108 = .ok (.invokevirtual 67, 3) := by decide +kernel
theorem dX0_runDown_111 : decode cX0_runDown 111 = .ok (.invokevirtual 70, 3) := by decide +kernel
theorem dX0_runDown_114 : decode cX0_runDown 114 = .ok (.iinc 4 (-1), 3) := by decide +kernel
theorem dX0_runDown_117 : decode cX0_runDown 117 = .ok (.goto (-31), 3) := by decide +kernel
theorem dX0_runDown_120 : decode cX0_runDown 120 = .ok (.iconst 1, 1) := by decide +kernel
theorem dX0_runDown_121 : decode cX0_runDown 121 = .ok (.ireturn, 1) := by decide +kernel
set_option maxRecDepth 20000 in
theorem ggX0_creep_X4_interval : GoodIn wsX0_creep wsX4_interval := goodIn_r _ [6, 7, 8, 9, 10, 59, 60, 61, 62, 63] (by decide +kernel) (by decide +kernel)
set_option maxRecDepth 20000 in
theorem gX0_creep_X4_interval : GoodIn wsX0_creep (wsV RX0 64 RX4 yX4_interval wsX4_interval) := goodIn_app (goodIn_of _ (by decide +kernel)) ggX0_creep_X4_interval
set_option maxRecDepth 20000 in
theorem ggX0_creep_X4_pull : GoodIn wsX0_creep wsX4_pull := goodIn_r _ [14, 15, 8, 9, 10, 59, 60, 61, 62, 63] (by decide +kernel) (by decide +kernel)
set_option maxRecDepth 20000 in
theorem gX0_creep_X4_pull : GoodIn wsX0_creep (wsV RX0 67 RX4 yX4_pull wsX4_pull) := goodIn_app (goodIn_of _ (by decide +kernel)) ggX0_creep_X4_pull
set_option maxRecDepth 20000 in
theorem ggX0_creep_X7_takeStep : GoodIn wsX0_creep wsX7_takeStep := goodIn_r _ [20, 21, 22, 23, 24, 25, 26, 27, 28, 9, 29, 30, 31, 32, 33, 34, 35, 36, 37, 38, 39, 40, 41, 19, 42, 43, 44, 46, 47, 48, 49, 50, 51, 52, 53, 54, 55, 56, 57, 58, 64, 65, 66, 67] (by decide +kernel) (by decide +kernel)
set_option maxRecDepth 20000 in
theorem gX0_creep_X7_takeStep : GoodIn wsX0_creep (wsV RX0 70 RX7 yX7_takeStep wsX7_takeStep) := goodIn_app (goodIn_of _ (by decide +kernel)) ggX0_creep_X7_takeStep
theorem dX0_creep_0 : decode cX0_creep 0 = .ok (.aload_n 0, 1) := by decide +kernel
theorem dX0_creep_1 : decode cX0_creep 1 = .ok (.getfield 12, 3) := by decide +kernel
theorem dX0_creep_4 : decode cX0_creep 4 = .ok (.iconst 0, 1) := by decide +kernel
theorem dX0_creep_5 : decode cX0_creep 5 = .ok (.invokevirtual 64, 3) := by decide +kernel
theorem dX0_creep_8 : decode cX0_creep 8 = .ok (.istore 4, 2) := by decide +kernel
theorem dX0_creep_10 : decode cX0_creep 10 = .ok (.aload_n 0, 1) := by decide +kernel
theorem dX0_creep_11 : decode cX0_creep 11 = .ok (.getfield 12, 3) := by decide +kernel
theorem dX0_creep_14 : decode cX0_creep 14 = .ok (.iconst 0, 1) := by decide +kernel
theorem dX0_creep_15 : decode cX0_creep 15 = .ok (.invokevirtual 67, 3) := by decide +kernel
theorem dX0_creep_18 : decode cX0_creep 18 = .ok (.istore 5, 2) := by decide +kernel
theorem dX0_creep_20 : decode cX0_creep 20 = .ok (.iconst 0, 1) := by decide +kernel
theorem dX0_creep_21 : decode cX0_creep 21 = .ok (.istore 6, 2) := by decide +kernel
theorem dX0_creep_23 : decode cX0_creep 23 = .ok (.iload 6, 2) := by decide +kernel
theorem dX0_creep_25 : decode cX0_creep 25 = .ok (.sipush 4000, 3) := by decide +kernel
theorem dX0_creep_28 : decode cX0_creep 28 = .ok (.if_icmp .ge 26, 3) := by decide +kernel
theorem dX0_creep_31 : decode cX0_creep 31 = .ok (.aload_n 1, 1) := by decide +kernel
theorem dX0_creep_32 : decode cX0_creep 32 = .ok (.getfield 126, 3) := by decide +kernel
theorem dX0_creep_35 : decode cX0_creep 35 = .ok (.iload_n 3, 1) := by decide +kernel
theorem dX0_creep_36 : decode cX0_creep 36 = .ok (.if_icmp .eq 18, 3) := by decide +kernel
theorem dX0_creep_39 : decode cX0_creep 39 = .ok (.aload_n 1, 1) := by decide +kernel
theorem dX0_creep_40 : decode cX0_creep 40 = .ok (.iload_n 2, 1) := by decide +kernel
theorem dX0_creep_41 : decode cX0_creep 41 = .ok (.iload 4, 2) := by decide +kernel
theorem dX0_creep_43 : decode cX0_creep 43 = .ok (.iload 5, 2) := by decide +kernel
theorem dX0_creep_45 : decode cX0_creep 45 = .ok (.invokevirtual 70, 3) := by decide +kernel
theorem dX0_creep_48 : decode cX0_creep 48 = .ok (.iinc 6 1, 3) := by decide +kernel
theorem dX0_creep_51 : decode cX0_creep 51 = .ok (.goto (-28), 3) := by decide +kernel
theorem dX0_creep_54 : decode cX0_creep 54 = .ok (.aload_n 1, 1) := by decide +kernel
theorem dX0_creep_55 : decode cX0_creep 55 = .ok (.getfield 126, 3) := by decide +kernel
theorem dX0_creep_58 : decode cX0_creep 58 = .ok (.iload_n 3, 1) := by decide +kernel
theorem dX0_creep_59 : decode cX0_creep 59 = .ok (.if_icmp .ne 7, 3) := by decide +kernel
theorem dX0_creep_62 : decode cX0_creep 62 = .ok (.iconst 1, 1) := by decide +kernel
theorem dX0_creep_63 : decode cX0_creep 63 = .ok (.goto 4, 3) := by decide +kernel
theorem dX0_creep_66 : decode cX0_creep 66 = .ok (.iconst 0, 1) := by decide +kernel
theorem dX0_creep_67 : decode cX0_creep 67 = .ok (.ireturn, 1) := by decide +kernel
theorem dX0_directionTo_0 : decode cX0_directionTo 0 = .ok (.iload_n 1, 1) := by decide +kernel
theorem dX0_directionTo_1 : decode cX0_directionTo 1 = .ok (.iload_n 0, 1) := by decide +kernel
theorem dX0_directionTo_2 : decode cX0_directionTo 2 = .ok (.if_icmp .ge 7, 3) := by decide +kernel
theorem dX0_directionTo_5 : decode cX0_directionTo 5 = .ok (.iconst (-1), 1) := by decide +kernel
theorem dX0_directionTo_6 : decode cX0_directionTo 6 = .ok (.goto 4, 3) := by decide +kernel
theorem dX0_directionTo_9 : decode cX0_directionTo 9 = .ok (.iconst 1, 1) := by decide +kernel
theorem dX0_directionTo_10 : decode cX0_directionTo 10 = .ok (.ireturn, 1) := by decide +kernel
set_option maxRecDepth 20000 in
theorem ggX1_init_X7_init : GoodIn wsX1_init wsX7_init := goodIn_r _ [9, 10, 2, 3, 11, 12, 13, 14, 15, 16, 17, 18, 19, 20, 21, 22, 23, 24, 25, 26, 27, 28, 29, 30, 31, 32, 33, 34, 35, 36, 37, 38, 41, 42, 43, 44, 45, 46, 47, 48, 49, 50, 51, 52, 53, 54, 55, 56, 57, 58, 59] (by decide +kernel) (by decide +kernel)
set_option maxRecDepth 20000 in
theorem gX1_init_X7_init_n17 : GoodIn wsX1_init (wsX7_init) := ggX1_init_X7_init
theorem dX1_init_0 : decode cX1_init 0 = .ok (.aload_n 0, 1) := by decide +kernel
theorem dX1_init_1 : decode cX1_init 1 = .ok (.invokespecial 3, 3) := by decide +kernel
theorem dX1_init_4 : decode cX1_init 4 = .ok (.aload_n 0, 1) := by decide +kernel
theorem dX1_init_5 : decode cX1_init 5 = .ok (.iconst 4, 1) := by decide +kernel
theorem dX1_init_6 : decode cX1_init 6 = .ok (.anewarray 9, 3) := by decide +kernel
theorem dX1_init_9 : decode cX1_init 9 = .ok (.putfield 11, 3) := by decide +kernel
theorem dX1_init_12 : decode cX1_init 12 = .ok (.iconst 0, 1) := by decide +kernel
theorem dX1_init_13 : decode cX1_init 13 = .ok (.istore_n 1, 1) := by decide +kernel
theorem dX1_init_14 : decode cX1_init 14 = .ok (.iload_n 1, 1) := by decide +kernel
theorem dX1_init_15 : decode cX1_init 15 = .ok (.iconst 4, 1) := by decide +kernel
theorem dX1_init_16 : decode cX1_init 16 = .ok (.if_icmp .ge 22, 3) := by decide +kernel
theorem dX1_init_19 : decode cX1_init 19 = .ok (.aload_n 0, 1) := by decide +kernel
theorem dX1_init_20 : decode cX1_init 20 = .ok (.getfield 11, 3) := by decide +kernel
theorem dX1_init_23 : decode cX1_init 23 = .ok (.iload_n 1, 1) := by decide +kernel
theorem dX1_init_24 : decode cX1_init 24 = .ok (.new 9, 3) := by decide +kernel
theorem dX1_init_27 : decode cX1_init 27 = .ok (.dup, 1) := by decide +kernel
theorem dX1_init_28 : decode cX1_init 28 = .ok (.invokespecial 17, 3) := by decide +kernel
theorem dX1_init_31 : decode cX1_init 31 = .ok (.aastore, 1) := by decide +kernel
theorem dX1_init_32 : decode cX1_init 32 = .ok (.iinc 1 1, 3) := by decide +kernel
theorem dX1_init_35 : decode cX1_init 35 = .ok (.goto (-21), 3) := by decide +kernel
theorem dX1_init_38 : decode cX1_init 38 = .ok (.return_, 1) := by decide +kernel
set_option maxRecDepth 20000 in
theorem ggX1_keep_X1_dropOldest : GoodIn wsX1_keep wsX1_dropOldest := goodIn_r _ [7, 2, 1, 48, 49] (by decide +kernel) (by decide +kernel)
set_option maxRecDepth 20000 in
theorem gX1_keep_X1_dropOldest : GoodIn wsX1_keep (wsV RX1 22 RX1 yX1_dropOldest wsX1_dropOldest) := goodIn_app (goodIn_of _ (by decide +kernel)) ggX1_keep_X1_dropOldest
set_option maxRecDepth 20000 in
theorem ggX1_keep_X7_copyFrom : GoodIn wsX1_keep wsX7_copyFrom := goodIn_r _ [12, 13, 14, 15, 16, 17, 18, 19, 20, 21, 22, 23, 24, 25, 26, 27, 28, 29, 30, 31, 32, 33, 34, 35, 36, 37, 38, 39, 40, 41, 42, 43, 44, 45, 46, 47, 50, 51, 52, 53, 54, 55, 56, 57, 58, 59, 60, 61, 62, 63, 64, 65, 66, 67, 68] (by decide +kernel) (by decide +kernel)
set_option maxRecDepth 20000 in
theorem gX1_keep_X7_copyFrom : GoodIn wsX1_keep (wsV RX1 25 RX7 yX7_copyFrom wsX7_copyFrom) := goodIn_app (goodIn_of _ (by decide +kernel)) ggX1_keep_X7_copyFrom
theorem dX1_keep_0 : decode cX1_keep 0 = .ok (.aload_n 0, 1) := by decide +kernel
theorem dX1_keep_1 : decode cX1_keep 1 = .ok (.getfield 18, 3) := by decide +kernel
theorem dX1_keep_4 : decode cX1_keep 4 = .ok (.iconst 4, 1) := by decide +kernel
theorem dX1_keep_5 : decode cX1_keep 5 = .ok (.if_icmp .lt 7, 3) := by decide +kernel
theorem dX1_keep_8 : decode cX1_keep 8 = .ok (.aload_n 0, 1) := by decide +kernel
theorem dX1_keep_9 : decode cX1_keep 9 = .ok (.invokevirtual 22, 3) := by decide +kernel
theorem dX1_keep_12 : decode cX1_keep 12 = .ok (.aload_n 0, 1) := by decide +kernel
theorem dX1_keep_13 : decode cX1_keep 13 = .ok (.getfield 11, 3) := by decide +kernel
theorem dX1_keep_16 : decode cX1_keep 16 = .ok (.aload_n 0, 1) := by decide +kernel
theorem dX1_keep_17 : decode cX1_keep 17 = .ok (.getfield 18, 3) := by decide +kernel
theorem dX1_keep_20 : decode cX1_keep 20 = .ok (.aaload, 1) := by decide +kernel
theorem dX1_keep_21 : decode cX1_keep 21 = .ok (.astore_n 2, 1) := by decide +kernel
theorem dX1_keep_22 : decode cX1_keep 22 = .ok (.aload_n 2, 1) := by decide +kernel
theorem dX1_keep_23 : decode cX1_keep 23 = .ok (.ifnull 18, 3) := by decide +kernel
theorem dX1_keep_26 : decode cX1_keep 26 = .ok (.aload_n 2, 1) := by decide +kernel
theorem dX1_keep_27 : decode cX1_keep 27 = .ok (.aload_n 1, 1) := by decide +kernel
theorem dX1_keep_28 : decode cX1_keep 28 = .ok (.invokevirtual 25, 3) := by decide +kernel
theorem dX1_keep_31 : decode cX1_keep 31 = .ok (.aload_n 0, 1) := by decide +kernel
theorem dX1_keep_32 : decode cX1_keep 32 = .ok (.dup, 1) := by decide +kernel
theorem dX1_keep_33 : decode cX1_keep 33 = .ok (.getfield 18, 3) := by decide +kernel
theorem dX1_keep_36 : decode cX1_keep 36 = .ok (.iconst 1, 1) := by decide +kernel
theorem dX1_keep_37 : decode cX1_keep 37 = .ok (.iadd, 1) := by decide +kernel
theorem dX1_keep_38 : decode cX1_keep 38 = .ok (.putfield 18, 3) := by decide +kernel
theorem dX1_keep_41 : decode cX1_keep 41 = .ok (.return_, 1) := by decide +kernel
theorem dX1_dropOldest_0 : decode cX1_dropOldest 0 = .ok (.aload_n 0, 1) := by decide +kernel
theorem dX1_dropOldest_1 : decode cX1_dropOldest 1 = .ok (.getfield 11, 3) := by decide +kernel
theorem dX1_dropOldest_4 : decode cX1_dropOldest 4 = .ok (.iconst 0, 1) := by decide +kernel
theorem dX1_dropOldest_5 : decode cX1_dropOldest 5 = .ok (.aaload, 1) := by decide +kernel
theorem dX1_dropOldest_6 : decode cX1_dropOldest 6 = .ok (.astore_n 1, 1) := by decide +kernel
theorem dX1_dropOldest_7 : decode cX1_dropOldest 7 = .ok (.iconst 1, 1) := by decide +kernel
theorem dX1_dropOldest_8 : decode cX1_dropOldest 8 = .ok (.istore_n 2, 1) := by decide +kernel
theorem dX1_dropOldest_9 : decode cX1_dropOldest 9 = .ok (.iload_n 2, 1) := by decide +kernel
theorem dX1_dropOldest_10 : decode cX1_dropOldest 10 = .ok (.iconst 4, 1) := by decide +kernel
theorem dX1_dropOldest_11 : decode cX1_dropOldest 11 = .ok (.if_icmp .ge 23, 3) := by decide +kernel
theorem dX1_dropOldest_14 : decode cX1_dropOldest 14 = .ok (.aload_n 0, 1) := by decide +kernel
theorem dX1_dropOldest_15 : decode cX1_dropOldest 15 = .ok (.getfield 11, 3) := by decide +kernel
theorem dX1_dropOldest_18 : decode cX1_dropOldest 18 = .ok (.iload_n 2, 1) := by decide +kernel
theorem dX1_dropOldest_19 : decode cX1_dropOldest 19 = .ok (.iconst 1, 1) := by decide +kernel
theorem dX1_dropOldest_20 : decode cX1_dropOldest 20 = .ok (.isub, 1) := by decide +kernel
theorem dX1_dropOldest_21 : decode cX1_dropOldest 21 = .ok (.aload_n 0, 1) := by decide +kernel
theorem dX1_dropOldest_22 : decode cX1_dropOldest 22 = .ok (.getfield 11, 3) := by decide +kernel
theorem dX1_dropOldest_25 : decode cX1_dropOldest 25 = .ok (.iload_n 2, 1) := by decide +kernel
theorem dX1_dropOldest_26 : decode cX1_dropOldest 26 = .ok (.aaload, 1) := by decide +kernel
theorem dX1_dropOldest_27 : decode cX1_dropOldest 27 = .ok (.aastore, 1) := by decide +kernel
theorem dX1_dropOldest_28 : decode cX1_dropOldest 28 = .ok (.iinc 2 1, 3) := by decide +kernel
theorem dX1_dropOldest_31 : decode cX1_dropOldest 31 = .ok (.goto (-22), 3) := by decide +kernel
theorem dX1_dropOldest_34 : decode cX1_dropOldest 34 = .ok (.aload_n 0, 1) := by decide +kernel
theorem dX1_dropOldest_35 : decode cX1_dropOldest 35 = .ok (.getfield 11, 3) := by decide +kernel
theorem dX1_dropOldest_38 : decode cX1_dropOldest 38 = .ok (.iconst 3, 1) := by decide +kernel
theorem dX1_dropOldest_39 : decode cX1_dropOldest 39 = .ok (.aload_n 1, 1) := by decide +kernel
theorem dX1_dropOldest_40 : decode cX1_dropOldest 40 = .ok (.aastore, 1) := by decide +kernel
theorem dX1_dropOldest_41 : decode cX1_dropOldest 41 = .ok (.aload_n 0, 1) := by decide +kernel
theorem dX1_dropOldest_42 : decode cX1_dropOldest 42 = .ok (.iconst 3, 1) := by decide +kernel
theorem dX1_dropOldest_43 : decode cX1_dropOldest 43 = .ok (.putfield 18, 3) := by decide +kernel
theorem dX1_dropOldest_46 : decode cX1_dropOldest 46 = .ok (.return_, 1) := by decide +kernel
theorem dX2_init_0 : decode cX2_init 0 = .ok (.aload_n 0, 1) := by decide +kernel
theorem dX2_init_1 : decode cX2_init 1 = .ok (.invokespecial 3, 3) := by decide +kernel
theorem dX2_init_4 : decode cX2_init 4 = .ok (.aload_n 0, 1) := by decide +kernel
theorem dX2_init_5 : decode cX2_init 5 = .ok (.bipush 6, 2) := by decide +kernel
theorem dX2_init_7 : decode cX2_init 7 = .ok (.newarray .int, 2) := by decide +kernel
theorem dX2_init_9 : decode cX2_init 9 = .ok (.putfield 9, 3) := by decide +kernel
theorem dX2_init_12 : decode cX2_init 12 = .ok (.aload_n 0, 1) := by decide +kernel
theorem dX2_init_13 : decode cX2_init 13 = .ok (.bipush 6, 2) := by decide +kernel
theorem dX2_init_15 : decode cX2_init 15 = .ok (.newarray .int, 2) := by decide +kernel
theorem dX2_init_17 : decode cX2_init 17 = .ok (.putfield 15, 3) := by decide +kernel
theorem dX2_init_20 : decode cX2_init 20 = .ok (.aload_n 0, 1) := by decide +kernel
theorem dX2_init_21 : decode cX2_init 21 = .ok (.bipush 6, 2) := by decide +kernel
theorem dX2_init_23 : decode cX2_init 23 = .ok (.newarray .int, 2) := by decide +kernel
theorem dX2_init_25 : decode cX2_init 25 = .ok (.putfield 18, 3) := by decide +kernel
theorem dX2_init_28 : decode cX2_init 28 = .ok (.return_, 1) := by decide +kernel
set_option maxRecDepth 20000 in
theorem ggX2_add_X8_within : GoodIn wsX2_add wsX8_within := goodIn_r _ [9] (by decide +kernel) (by decide +kernel)
set_option maxRecDepth 20000 in
theorem gX2_add_X8_within_n21 : GoodIn wsX2_add (wsX8_within) := ggX2_add_X8_within
theorem dX2_add_0 : decode cX2_add 0 = .ok (.iload_n 1, 1) := by decide +kernel
theorem dX2_add_1 : decode cX2_add 1 = .ok (.sipush (-3000), 3) := by decide +kernel
theorem dX2_add_4 : decode cX2_add 4 = .ok (.sipush 3000, 3) := by decide +kernel
theorem dX2_add_7 : decode cX2_add 7 = .ok (.invokestatic 21, 3) := by decide +kernel
theorem dX2_add_10 : decode cX2_add 10 = .ok (.ifCond .eq 25, 3) := by decide +kernel
theorem dX2_add_13 : decode cX2_add 13 = .ok (.iload_n 2, 1) := by decide +kernel
theorem dX2_add_14 : decode cX2_add 14 = .ok (.iload_n 1, 1) := by decide +kernel
theorem dX2_add_15 : decode cX2_add 15 = .ok (.sipush 3000, 3) := by decide +kernel
theorem dX2_add_18 : decode cX2_add 18 = .ok (.invokestatic 21, 3) := by decide +kernel
theorem dX2_add_21 : decode cX2_add 21 = .ok (.ifCond .eq 14, 3) := by decide +kernel
theorem dX2_add_24 : decode cX2_add 24 = .ok (.iload_n 3, 1) := by decide +kernel
theorem dX2_add_25 : decode cX2_add 25 = .ok (.iconst 1, 1) := by decide +kernel
theorem dX2_add_26 : decode cX2_add 26 = .ok (.sipush 300, 3) := by decide +kernel
theorem dX2_add_29 : decode cX2_add 29 = .ok (.invokestatic 21, 3) := by decide +kernel
theorem dX2_add_32 : decode cX2_add 32 = .ok (.ifCond .ne 6, 3) := by decide +kernel
theorem dX2_add_35 : decode cX2_add 35 = .ok (.ldc 25, 2) := by decide +kernel
theorem dX2_add_37 : decode cX2_add 37 = .ok (.ireturn, 1) := by decide +kernel
theorem dX2_add_38 : decode cX2_add 38 = .ok (.aload_n 0, 1) := by decide +kernel
theorem dX2_add_39 : decode cX2_add 39 = .ok (.getfield 26, 3) := by decide +kernel
theorem dX2_add_42 : decode cX2_add 42 = .ok (.istore 4, 2) := by decide +kernel
theorem dX2_add_44 : decode cX2_add 44 = .ok (.iload 4, 2) := by decide +kernel
theorem dX2_add_46 : decode cX2_add 46 = .ok (.bipush 6, 2) := by decide +kernel
theorem dX2_add_48 : decode cX2_add 48 = .ok (.if_icmp .lt 6, 3) := by decide +kernel
theorem dX2_add_51 : decode cX2_add 51 = .ok (.ldc 30, 2) := by decide +kernel
theorem dX2_add_53 : decode cX2_add 53 = .ok (.ireturn, 1) := by decide +kernel
theorem dX2_add_54 : decode cX2_add 54 = .ok (.aload_n 0, 1) := by decide +kernel
theorem dX2_add_55 : decode cX2_add 55 = .ok (.getfield 9, 3) := by decide +kernel
theorem dX2_add_58 : decode cX2_add 58 = .ok (.iload 4, 2) := by decide +kernel
theorem dX2_add_60 : decode cX2_add 60 = .ok (.iload_n 1, 1) := by decide +kernel
theorem dX2_add_61 : decode cX2_add 61 = .ok (.iastore, 1) := by decide +kernel
theorem dX2_add_62 : decode cX2_add 62 = .ok (.aload_n 0, 1) := by decide +kernel
theorem dX2_add_63 : decode cX2_add 63 = .ok (.getfield 15, 3) := by decide +kernel
theorem dX2_add_66 : decode cX2_add 66 = .ok (.iload 4, 2) := by decide +kernel
theorem dX2_add_68 : decode cX2_add 68 = .ok (.iload_n 2, 1) := by decide +kernel
theorem dX2_add_69 : decode cX2_add 69 = .ok (.iastore, 1) := by decide +kernel
theorem dX2_add_70 : decode cX2_add 70 = .ok (.aload_n 0, 1) := by decide +kernel
theorem dX2_add_71 : decode cX2_add 71 = .ok (.getfield 18, 3) := by decide +kernel
theorem dX2_add_74 : decode cX2_add 74 = .ok (.iload 4, 2) := by decide +kernel
theorem dX2_add_76 : decode cX2_add 76 = .ok (.iload_n 3, 1) := by decide +kernel
theorem dX2_add_77 : decode cX2_add 77 = .ok (.iastore, 1) := by decide +kernel
theorem dX2_add_78 : decode cX2_add 78 = .ok (.aload_n 0, 1) := by decide +kernel
theorem dX2_add_79 : decode cX2_add 79 = .ok (.iload 4, 2) := by decide +kernel
theorem dX2_add_81 : decode cX2_add 81 = .ok (.iconst 1, 1) := by decide +kernel
theorem dX2_add_82 : decode cX2_add 82 = .ok (.iadd, 1) := by decide +kernel
theorem dX2_add_83 : decode cX2_add 83 = .ok (.putfield 26, 3) := by decide +kernel
theorem dX2_add_86 : decode cX2_add 86 = .ok (.iload 4, 2) := by decide +kernel
theorem dX2_add_88 : decode cX2_add 88 = .ok (.ireturn, 1) := by decide +kernel
theorem dX2_drop_0 : decode cX2_drop 0 = .ok (.iload_n 1, 1) := by decide +kernel
theorem dX2_drop_1 : decode cX2_drop 1 = .ok (.ifCond .ge 6, 3) := by decide +kernel
theorem dX2_drop_4 : decode cX2_drop 4 = .ok (.ldc 25, 2) := by decide +kernel
theorem dX2_drop_6 : decode cX2_drop 6 = .ok (.ireturn, 1) := by decide +kernel
theorem dX2_drop_7 : decode cX2_drop 7 = .ok (.iload_n 1, 1) := by decide +kernel
theorem dX2_drop_8 : decode cX2_drop 8 = .ok (.aload_n 0, 1) := by decide +kernel
theorem dX2_drop_9 : decode cX2_drop 9 = .ok (.getfield 26, 3) := by decide +kernel
theorem dX2_drop_12 : decode cX2_drop 12 = .ok (.if_icmp .lt 6, 3) := by decide +kernel
theorem dX2_drop_15 : decode cX2_drop 15 = .ok (.ldc 31, 2) := by decide +kernel
theorem dX2_drop_17 : decode cX2_drop 17 = .ok (.ireturn, 1) := by decide +kernel
theorem dX2_drop_18 : decode cX2_drop 18 = .ok (.aload_n 0, 1) := by decide +kernel
theorem dX2_drop_19 : decode cX2_drop 19 = .ok (.getfield 18, 3) := by decide +kernel
theorem dX2_drop_22 : decode cX2_drop 22 = .ok (.iload_n 1, 1) := by decide +kernel
theorem dX2_drop_23 : decode cX2_drop 23 = .ok (.iaload, 1) := by decide +kernel
theorem dX2_drop_24 : decode cX2_drop 24 = .ok (.istore_n 2, 1) := by decide +kernel
theorem dX2_drop_25 : decode cX2_drop 25 = .ok (.iload_n 1, 1) := by decide +kernel
theorem dX2_drop_26 : decode cX2_drop 26 = .ok (.iconst 1, 1) := by decide +kernel
theorem dX2_drop_27 : decode cX2_drop 27 = .ok (.iadd, 1) := by decide +kernel
theorem dX2_drop_28 : decode cX2_drop 28 = .ok (.istore_n 3, 1) := by decide +kernel
theorem dX2_drop_29 : decode cX2_drop 29 = .ok (.iload_n 3, 1) := by decide +kernel
theorem dX2_drop_30 : decode cX2_drop 30 = .ok (.aload_n 0, 1) := by decide +kernel
theorem dX2_drop_31 : decode cX2_drop 31 = .ok (.getfield 26, 3) := by decide +kernel
theorem dX2_drop_34 : decode cX2_drop 34 = .ok (.if_icmp .ge 51, 3) := by decide +kernel
theorem dX2_drop_37 : decode cX2_drop 37 = .ok (.aload_n 0, 1) := by decide +kernel
theorem dX2_drop_38 : decode cX2_drop 38 = .ok (.getfield 9, 3) := by decide +kernel
theorem dX2_drop_41 : decode cX2_drop 41 = .ok (.iload_n 3, 1) := by decide +kernel
theorem dX2_drop_42 : decode cX2_drop 42 = .ok (.iconst 1, 1) := by decide +kernel
theorem dX2_drop_43 : decode cX2_drop 43 = .ok (.isub, 1) := by decide +kernel
theorem dX2_drop_44 : decode cX2_drop 44 = .ok (.aload_n 0, 1) := by decide +kernel
theorem dX2_drop_45 : decode cX2_drop 45 = .ok (.getfield 9, 3) := by decide +kernel
theorem dX2_drop_48 : decode cX2_drop 48 = .ok (.iload_n 3, 1) := by decide +kernel
theorem dX2_drop_49 : decode cX2_drop 49 = .ok (.iaload, 1) := by decide +kernel
theorem dX2_drop_50 : decode cX2_drop 50 = .ok (.iastore, 1) := by decide +kernel
theorem dX2_drop_51 : decode cX2_drop 51 = .ok (.aload_n 0, 1) := by decide +kernel
theorem dX2_drop_52 : decode cX2_drop 52 = .ok (.getfield 15, 3) := by decide +kernel
theorem dX2_drop_55 : decode cX2_drop 55 = .ok (.iload_n 3, 1) := by decide +kernel
theorem dX2_drop_56 : decode cX2_drop 56 = .ok (.iconst 1, 1) := by decide +kernel
theorem dX2_drop_57 : decode cX2_drop 57 = .ok (.isub, 1) := by decide +kernel
theorem dX2_drop_58 : decode cX2_drop 58 = .ok (.aload_n 0, 1) := by decide +kernel
theorem dX2_drop_59 : decode cX2_drop 59 = .ok (.getfield 15, 3) := by decide +kernel
theorem dX2_drop_62 : decode cX2_drop 62 = .ok (.iload_n 3, 1) := by decide +kernel
theorem dX2_drop_63 : decode cX2_drop 63 = .ok (.iaload, 1) := by decide +kernel
theorem dX2_drop_64 : decode cX2_drop 64 = .ok (.iastore, 1) := by decide +kernel
theorem dX2_drop_65 : decode cX2_drop 65 = .ok (.aload_n 0, 1) := by decide +kernel
theorem dX2_drop_66 : decode cX2_drop 66 = .ok (.getfield 18, 3) := by decide +kernel
theorem dX2_drop_69 : decode cX2_drop 69 = .ok (.iload_n 3, 1) := by decide +kernel
theorem dX2_drop_70 : decode cX2_drop 70 = .ok (.iconst 1, 1) := by decide +kernel
theorem dX2_drop_71 : decode cX2_drop 71 = .ok (.isub, 1) := by decide +kernel
theorem dX2_drop_72 : decode cX2_drop 72 = .ok (.aload_n 0, 1) := by decide +kernel
theorem dX2_drop_73 : decode cX2_drop 73 = .ok (.getfield 18, 3) := by decide +kernel
theorem dX2_drop_76 : decode cX2_drop 76 = .ok (.iload_n 3, 1) := by decide +kernel
theorem dX2_drop_77 : decode cX2_drop 77 = .ok (.iaload, 1) := by decide +kernel
theorem dX2_drop_78 : decode cX2_drop 78 = .ok (.iastore, 1) := by decide +kernel
theorem dX2_drop_79 : decode cX2_drop 79 = .ok (.iinc 3 1, 3) := by decide +kernel
theorem dX2_drop_82 : decode cX2_drop 82 = .ok (.goto (-53), 3) := by decide +kernel
theorem dX2_drop_85 : decode cX2_drop 85 = .ok (.aload_n 0, 1) := by decide +kernel
theorem dX2_drop_86 : decode cX2_drop 86 = .ok (.dup, 1) := by decide +kernel
theorem dX2_drop_87 : decode cX2_drop 87 = .ok (.getfield 26, 3) := by decide +kernel
theorem dX2_drop_90 : decode cX2_drop 90 = .ok (.iconst 1, 1) := by decide +kernel
theorem dX2_drop_91 : decode cX2_drop 91 = .ok (.isub, 1) := by decide +kernel
theorem dX2_drop_92 : decode cX2_drop 92 = .ok (.putfield 26, 3) := by decide +kernel
theorem dX2_drop_95 : decode cX2_drop 95 = .ok (.iload_n 2, 1) := by decide +kernel
theorem dX2_drop_96 : decode cX2_drop 96 = .ok (.ireturn, 1) := by decide +kernel
set_option maxRecDepth 20000 in
theorem ggX2_part_X8_within : GoodIn wsX2_part wsX8_within := goodIn_r _ [9] (by decide +kernel) (by decide +kernel)
set_option maxRecDepth 20000 in
theorem gX2_part_X8_within_n21 : GoodIn wsX2_part (wsX8_within) := ggX2_part_X8_within
theorem dX2_part_0 : decode cX2_part 0 = .ok (.iload_n 1, 1) := by decide +kernel
theorem dX2_part_1 : decode cX2_part 1 = .ok (.ifCond .lt 12, 3) := by decide +kernel
theorem dX2_part_4 : decode cX2_part 4 = .ok (.iload_n 2, 1) := by decide +kernel
theorem dX2_part_5 : decode cX2_part 5 = .ok (.iconst 0, 1) := by decide +kernel
theorem dX2_part_6 : decode cX2_part 6 = .ok (.iconst 2, 1) := by decide +kernel
theorem dX2_part_7 : decode cX2_part 7 = .ok (.invokestatic 21, 3) := by decide +kernel
theorem dX2_part_10 : decode cX2_part 10 = .ok (.ifCond .ne 6, 3) := by decide +kernel
theorem dX2_part_13 : decode cX2_part 13 = .ok (.ldc 25, 2) := by decide +kernel
theorem dX2_part_15 : decode cX2_part 15 = .ok (.ireturn, 1) := by decide +kernel
theorem dX2_part_16 : decode cX2_part 16 = .ok (.iload_n 1, 1) := by decide +kernel
theorem dX2_part_17 : decode cX2_part 17 = .ok (.aload_n 0, 1) := by decide +kernel
theorem dX2_part_18 : decode cX2_part 18 = .ok (.getfield 26, 3) := by decide +kernel
theorem dX2_part_21 : decode cX2_part 21 = .ok (.if_icmp .lt 6, 3) := by decide +kernel
theorem dX2_part_24 : decode cX2_part 24 = .ok (.ldc 32, 2) := by decide +kernel
theorem dX2_part_26 : decode cX2_part 26 = .ok (.ireturn, 1) := by decide +kernel
theorem dX2_part_27 : decode cX2_part 27 = .ok (.iload_n 2, 1) := by decide +kernel
theorem dX2_part_28 : decode cX2_part 28 = .ok (.ifCond .ne 10, 3) := by decide +kernel
theorem dX2_part_31 : decode cX2_part 31 = .ok (.aload_n 0, 1) := by decide +kernel
theorem dX2_part_32 : decode cX2_part 32 = .ok (.getfield 9, 3) := by decide +kernel
theorem dX2_part_35 : decode cX2_part 35 = .ok (.iload_n 1, 1) := by decide +kernel
theorem dX2_part_36 : decode cX2_part 36 = .ok (.iaload, 1) := by decide +kernel
theorem dX2_part_37 : decode cX2_part 37 = .ok (.ireturn, 1) := by decide +kernel
theorem dX2_part_38 : decode cX2_part 38 = .ok (.iload_n 2, 1) := by decide +kernel
theorem dX2_part_39 : decode cX2_part 39 = .ok (.iconst 1, 1) := by decide +kernel
theorem dX2_part_40 : decode cX2_part 40 = .ok (.if_icmp .ne 12, 3) := by decide +kernel
theorem dX2_part_43 : decode cX2_part 43 = .ok (.aload_n 0, 1) := by decide +kernel
theorem dX2_part_44 : decode cX2_part 44 = .ok (.getfield 15, 3) := by decide +kernel
theorem dX2_part_47 : decode cX2_part 47 = .ok (.iload_n 1, 1) := by decide +kernel
theorem dX2_part_48 : decode cX2_part 48 = .ok (.iaload, 1) := by decide +kernel
theorem dX2_part_49 : decode cX2_part 49 = .ok (.goto 9, 3) := by decide +kernel
theorem dX2_part_52 : decode cX2_part 52 = .ok (.aload_n 0, 1) := by decide +kernel
theorem dX2_part_53 : decode cX2_part 53 = .ok (.getfield 18, 3) := by decide +kernel
theorem dX2_part_56 : decode cX2_part 56 = .ok (.iload_n 1, 1) := by decide +kernel
theorem dX2_part_57 : decode cX2_part 57 = .ok (.iaload, 1) := by decide +kernel
theorem dX2_part_58 : decode cX2_part 58 = .ok (.ireturn, 1) := by decide +kernel
theorem dX2_weightAt_0 : decode cX2_weightAt 0 = .ok (.iconst 0, 1) := by decide +kernel
theorem dX2_weightAt_1 : decode cX2_weightAt 1 = .ok (.istore_n 2, 1) := by decide +kernel
theorem dX2_weightAt_2 : decode cX2_weightAt 2 = .ok (.iconst 0, 1) := by decide +kernel
theorem dX2_weightAt_3 : decode cX2_weightAt 3 = .ok (.istore_n 3, 1) := by decide +kernel
theorem dX2_weightAt_4 : decode cX2_weightAt 4 = .ok (.iload_n 3, 1) := by decide +kernel
theorem dX2_weightAt_5 : decode cX2_weightAt 5 = .ok (.aload_n 0, 1) := by decide +kernel
theorem dX2_weightAt_6 : decode cX2_weightAt 6 = .ok (.getfield 26, 3) := by decide +kernel
theorem dX2_weightAt_9 : decode cX2_weightAt 9 = .ok (.if_icmp .ge 38, 3) := by decide +kernel
theorem dX2_weightAt_12 : decode cX2_weightAt 12 = .ok (.iload_n 1, 1) := by decide +kernel
theorem dX2_weightAt_13 : decode cX2_weightAt 13 = .ok (.aload_n 0, 1) := by decide +kernel
theorem dX2_weightAt_14 : decode cX2_weightAt 14 = .ok (.getfield 9, 3) := by decide +kernel
theorem dX2_weightAt_17 : decode cX2_weightAt 17 = .ok (.iload_n 3, 1) := by decide +kernel
theorem dX2_weightAt_18 : decode cX2_weightAt 18 = .ok (.iaload, 1) := by decide +kernel
theorem dX2_weightAt_19 : decode cX2_weightAt 19 = .ok (.if_icmp .lt 22, 3) := by decide +kernel
theorem dX2_weightAt_22 : decode cX2_weightAt 22 = .ok (.iload_n 1, 1) := by decide +kernel
theorem dX2_weightAt_23 : decode cX2_weightAt 23 = .ok (.aload_n 0, 1) := by decide +kernel
theorem dX2_weightAt_24 : decode cX2_weightAt 24 = .ok (.getfield 15, 3) := by decide +kernel
theorem dX2_weightAt_27 : decode cX2_weightAt 27 = .ok (.iload_n 3, 1) := by decide +kernel
theorem dX2_weightAt_28 : decode cX2_weightAt 28 = .ok (.iaload, 1) := by decide +kernel
theorem dX2_weightAt_29 : decode cX2_weightAt 29 = .ok (.if_icmp .gt 12, 3) := by decide +kernel
theorem dX2_weightAt_32 : decode cX2_weightAt 32 = .ok (.iload_n 2, 1) := by decide +kernel
theorem dX2_weightAt_33 : decode cX2_weightAt 33 = .ok (.aload_n 0, 1) := by decide +kernel
theorem dX2_weightAt_34 : decode cX2_weightAt 34 = .ok (.getfield 18, 3) := by decide +kernel
theorem dX2_weightAt_37 : decode cX2_weightAt 37 = .ok (.iload_n 3, 1) := by decide +kernel
theorem dX2_weightAt_38 : decode cX2_weightAt 38 = .ok (.iaload, 1) := by decide +kernel
theorem dX2_weightAt_39 : decode cX2_weightAt 39 = .ok (.iadd, 1) := by decide +kernel
theorem dX2_weightAt_40 : decode cX2_weightAt 40 = .ok (.istore_n 2, 1) := by decide +kernel
theorem dX2_weightAt_41 : decode cX2_weightAt 41 = .ok (.iinc 3 1, 3) := by decide +kernel
theorem dX2_weightAt_44 : decode cX2_weightAt 44 = .ok (.goto (-40), 3) := by decide +kernel
theorem dX2_weightAt_47 : decode cX2_weightAt 47 = .ok (.iload_n 2, 1) := by decide +kernel
theorem dX2_weightAt_48 : decode cX2_weightAt 48 = .ok (.ireturn, 1) := by decide +kernel
theorem dX2_copyFrom_0 : decode cX2_copyFrom 0 = .ok (.aload_n 1, 1) := by decide +kernel
theorem dX2_copyFrom_1 : decode cX2_copyFrom 1 = .ok (.getfield 9, 3) := by decide +kernel
theorem dX2_copyFrom_4 : decode cX2_copyFrom 4 = .ok (.iconst 0, 1) := by decide +kernel
theorem dX2_copyFrom_5 : decode cX2_copyFrom 5 = .ok (.aload_n 0, 1) := by decide +kernel
theorem dX2_copyFrom_6 : decode cX2_copyFrom 6 = .ok (.getfield 9, 3) := by decide +kernel
theorem dX2_copyFrom_9 : decode cX2_copyFrom 9 = .ok (.iconst 0, 1) := by decide +kernel
theorem dX2_copyFrom_10 : decode cX2_copyFrom 10 = .ok (.bipush 6, 2) := by decide +kernel
theorem dX2_copyFrom_12 : decode cX2_copyFrom 12 = .ok (.invokestatic 33, 3) := by decide +kernel
theorem dX2_copyFrom_15 : decode cX2_copyFrom 15 = .ok (.aload_n 1, 1) := by decide +kernel
theorem dX2_copyFrom_16 : decode cX2_copyFrom 16 = .ok (.getfield 15, 3) := by decide +kernel
theorem dX2_copyFrom_19 : decode cX2_copyFrom 19 = .ok (.iconst 0, 1) := by decide +kernel
theorem dX2_copyFrom_20 : decode cX2_copyFrom 20 = .ok (.aload_n 0, 1) := by decide +kernel
theorem dX2_copyFrom_21 : decode cX2_copyFrom 21 = .ok (.getfield 15, 3) := by decide +kernel
theorem dX2_copyFrom_24 : decode cX2_copyFrom 24 = .ok (.iconst 0, 1) := by decide +kernel
theorem dX2_copyFrom_25 : decode cX2_copyFrom 25 = .ok (.bipush 6, 2) := by decide +kernel
theorem dX2_copyFrom_27 : decode cX2_copyFrom 27 = .ok (.invokestatic 33, 3) := by decide +kernel
theorem dX2_copyFrom_30 : decode cX2_copyFrom 30 = .ok (.aload_n 1, 1) := by decide +kernel
theorem dX2_copyFrom_31 : decode cX2_copyFrom 31 = .ok (.getfield 18, 3) := by decide +kernel
theorem dX2_copyFrom_34 : decode cX2_copyFrom 34 = .ok (.iconst 0, 1) := by decide +kernel
theorem dX2_copyFrom_35 : decode cX2_copyFrom 35 = .ok (.aload_n 0, 1) := by decide +kernel
theorem dX2_copyFrom_36 : decode cX2_copyFrom 36 = .ok (.getfield 18, 3) := by decide +kernel
theorem dX2_copyFrom_39 : decode cX2_copyFrom 39 = .ok (.iconst 0, 1) := by decide +kernel
theorem dX2_copyFrom_40 : decode cX2_copyFrom 40 = .ok (.bipush 6, 2) := by decide +kernel
theorem dX2_copyFrom_42 : decode cX2_copyFrom 42 = .ok (.invokestatic 33, 3) := by decide +kernel
theorem dX2_copyFrom_45 : decode cX2_copyFrom 45 = .ok (.aload_n 0, 1) := by decide +kernel
theorem dX2_copyFrom_46 : decode cX2_copyFrom 46 = .ok (.aload_n 1, 1) := by decide +kernel
theorem dX2_copyFrom_47 : decode cX2_copyFrom 47 = .ok (.getfield 26, 3) := by decide +kernel
theorem dX2_copyFrom_50 : decode cX2_copyFrom 50 = .ok (.putfield 26, 3) := by decide +kernel
theorem dX2_copyFrom_53 : decode cX2_copyFrom 53 = .ok (.return_, 1) := by decide +kernel
theorem dX3_init_0 : decode cX3_init 0 = .ok (.aload_n 0, 1) := by decide +kernel
theorem dX3_init_1 : decode cX3_init 1 = .ok (.invokespecial 3, 3) := by decide +kernel
theorem dX3_init_4 : decode cX3_init 4 = .ok (.aload_n 0, 1) := by decide +kernel
theorem dX3_init_5 : decode cX3_init 5 = .ok (.bipush 25, 2) := by decide +kernel
theorem dX3_init_7 : decode cX3_init 7 = .ok (.newarray .int, 2) := by decide +kernel
theorem dX3_init_9 : decode cX3_init 9 = .ok (.putfield 9, 3) := by decide +kernel
theorem dX3_init_12 : decode cX3_init 12 = .ok (.return_, 1) := by decide +kernel
theorem dX3_keep_0 : decode cX3_keep 0 = .ok (.aload_n 0, 1) := by decide +kernel
theorem dX3_keep_1 : decode cX3_keep 1 = .ok (.getfield 9, 3) := by decide +kernel
theorem dX3_keep_4 : decode cX3_keep 4 = .ok (.iconst 0, 1) := by decide +kernel
theorem dX3_keep_5 : decode cX3_keep 5 = .ok (.aload_n 0, 1) := by decide +kernel
theorem dX3_keep_6 : decode cX3_keep 6 = .ok (.getfield 9, 3) := by decide +kernel
theorem dX3_keep_9 : decode cX3_keep 9 = .ok (.iconst 5, 1) := by decide +kernel
theorem dX3_keep_10 : decode cX3_keep 10 = .ok (.aload_n 0, 1) := by decide +kernel
theorem dX3_keep_11 : decode cX3_keep 11 = .ok (.getfield 9, 3) := by decide +kernel
theorem dX3_keep_14 : decode cX3_keep 14 = .ok (.arraylength, 1) := by decide +kernel
theorem dX3_keep_15 : decode cX3_keep 15 = .ok (.iconst 5, 1) := by decide +kernel
theorem dX3_keep_16 : decode cX3_keep 16 = .ok (.isub, 1) := by decide +kernel
theorem dX3_keep_17 : decode cX3_keep 17 = .ok (.invokestatic 15, 3) := by decide +kernel
theorem dX3_keep_20 : decode cX3_keep 20 = .ok (.aload_n 0, 1) := by decide +kernel
theorem dX3_keep_21 : decode cX3_keep 21 = .ok (.getfield 9, 3) := by decide +kernel
theorem dX3_keep_24 : decode cX3_keep 24 = .ok (.iconst 0, 1) := by decide +kernel
theorem dX3_keep_25 : decode cX3_keep 25 = .ok (.iload_n 1, 1) := by decide +kernel
theorem dX3_keep_26 : decode cX3_keep 26 = .ok (.iastore, 1) := by decide +kernel
theorem dX3_keep_27 : decode cX3_keep 27 = .ok (.aload_n 0, 1) := by decide +kernel
theorem dX3_keep_28 : decode cX3_keep 28 = .ok (.getfield 9, 3) := by decide +kernel
theorem dX3_keep_31 : decode cX3_keep 31 = .ok (.iconst 1, 1) := by decide +kernel
theorem dX3_keep_32 : decode cX3_keep 32 = .ok (.iload_n 2, 1) := by decide +kernel
theorem dX3_keep_33 : decode cX3_keep 33 = .ok (.iastore, 1) := by decide +kernel
theorem dX3_keep_34 : decode cX3_keep 34 = .ok (.aload_n 0, 1) := by decide +kernel
theorem dX3_keep_35 : decode cX3_keep 35 = .ok (.getfield 9, 3) := by decide +kernel
theorem dX3_keep_38 : decode cX3_keep 38 = .ok (.iconst 2, 1) := by decide +kernel
theorem dX3_keep_39 : decode cX3_keep 39 = .ok (.iload_n 3, 1) := by decide +kernel
theorem dX3_keep_40 : decode cX3_keep 40 = .ok (.iastore, 1) := by decide +kernel
theorem dX3_keep_41 : decode cX3_keep 41 = .ok (.aload_n 0, 1) := by decide +kernel
theorem dX3_keep_42 : decode cX3_keep 42 = .ok (.getfield 9, 3) := by decide +kernel
theorem dX3_keep_45 : decode cX3_keep 45 = .ok (.iconst 3, 1) := by decide +kernel
theorem dX3_keep_46 : decode cX3_keep 46 = .ok (.iload 4, 2) := by decide +kernel
theorem dX3_keep_48 : decode cX3_keep 48 = .ok (.iastore, 1) := by decide +kernel
theorem dX3_keep_49 : decode cX3_keep 49 = .ok (.aload_n 0, 1) := by decide +kernel
theorem dX3_keep_50 : decode cX3_keep 50 = .ok (.getfield 9, 3) := by decide +kernel
theorem dX3_keep_53 : decode cX3_keep 53 = .ok (.iconst 4, 1) := by decide +kernel
theorem dX3_keep_54 : decode cX3_keep 54 = .ok (.iload 5, 2) := by decide +kernel
theorem dX3_keep_56 : decode cX3_keep 56 = .ok (.iastore, 1) := by decide +kernel
theorem dX3_keep_57 : decode cX3_keep 57 = .ok (.aload_n 0, 1) := by decide +kernel
theorem dX3_keep_58 : decode cX3_keep 58 = .ok (.getfield 21, 3) := by decide +kernel
theorem dX3_keep_61 : decode cX3_keep 61 = .ok (.iconst 5, 1) := by decide +kernel
theorem dX3_keep_62 : decode cX3_keep 62 = .ok (.if_icmp .ge 13, 3) := by decide +kernel
theorem dX3_keep_65 : decode cX3_keep 65 = .ok (.aload_n 0, 1) := by decide +kernel
theorem dX3_keep_66 : decode cX3_keep 66 = .ok (.dup, 1) := by decide +kernel
theorem dX3_keep_67 : decode cX3_keep 67 = .ok (.getfield 21, 3) := by decide +kernel
theorem dX3_keep_70 : decode cX3_keep 70 = .ok (.iconst 1, 1) := by decide +kernel
theorem dX3_keep_71 : decode cX3_keep 71 = .ok (.iadd, 1) := by decide +kernel
theorem dX3_keep_72 : decode cX3_keep 72 = .ok (.putfield 21, 3) := by decide +kernel
theorem dX3_keep_75 : decode cX3_keep 75 = .ok (.return_, 1) := by decide +kernel
set_option maxRecDepth 20000 in
theorem ggX3_part_X8_within : GoodIn wsX3_part wsX8_within := goodIn_r _ [7] (by decide +kernel) (by decide +kernel)
set_option maxRecDepth 20000 in
theorem gX3_part_X8_within_n25 : GoodIn wsX3_part (wsX8_within) := ggX3_part_X8_within
theorem dX3_part_0 : decode cX3_part 0 = .ok (.iload_n 1, 1) := by decide +kernel
theorem dX3_part_1 : decode cX3_part 1 = .ok (.ifCond .lt 12, 3) := by decide +kernel
theorem dX3_part_4 : decode cX3_part 4 = .ok (.iload_n 2, 1) := by decide +kernel
theorem dX3_part_5 : decode cX3_part 5 = .ok (.iconst 0, 1) := by decide +kernel
theorem dX3_part_6 : decode cX3_part 6 = .ok (.iconst 4, 1) := by decide +kernel
theorem dX3_part_7 : decode cX3_part 7 = .ok (.invokestatic 25, 3) := by decide +kernel
theorem dX3_part_10 : decode cX3_part 10 = .ok (.ifCond .ne 6, 3) := by decide +kernel
theorem dX3_part_13 : decode cX3_part 13 = .ok (.ldc 29, 2) := by decide +kernel
theorem dX3_part_15 : decode cX3_part 15 = .ok (.ireturn, 1) := by decide +kernel
theorem dX3_part_16 : decode cX3_part 16 = .ok (.iload_n 1, 1) := by decide +kernel
theorem dX3_part_17 : decode cX3_part 17 = .ok (.aload_n 0, 1) := by decide +kernel
theorem dX3_part_18 : decode cX3_part 18 = .ok (.getfield 21, 3) := by decide +kernel
theorem dX3_part_21 : decode cX3_part 21 = .ok (.if_icmp .ge 16, 3) := by decide +kernel
theorem dX3_part_24 : decode cX3_part 24 = .ok (.aload_n 0, 1) := by decide +kernel
theorem dX3_part_25 : decode cX3_part 25 = .ok (.getfield 9, 3) := by decide +kernel
theorem dX3_part_28 : decode cX3_part 28 = .ok (.iload_n 1, 1) := by decide +kernel
theorem dX3_part_29 : decode cX3_part 29 = .ok (.iconst 5, 1) := by decide +kernel
theorem dX3_part_30 : decode cX3_part 30 = .ok (.imul, 1) := by decide +kernel
theorem dX3_part_31 : decode cX3_part 31 = .ok (.iload_n 2, 1) := by decide +kernel
theorem dX3_part_32 : decode cX3_part 32 = .ok (.iadd, 1) := by decide +kernel
theorem dX3_part_33 : decode cX3_part 33 = .ok (.iaload, 1) := by decide +kernel
theorem dX3_part_34 : decode cX3_part 34 = .ok (.goto 5, 3) := by decide +kernel
theorem dX3_part_37 : decode cX3_part 37 = .ok (.ldc 30, 2) := by decide +kernel
theorem dX3_part_39 : decode cX3_part 39 = .ok (.ireturn, 1) := by decide +kernel
theorem dX3_empty_0 : decode cX3_empty 0 = .ok (.aload_n 0, 1) := by decide +kernel
theorem dX3_empty_1 : decode cX3_empty 1 = .ok (.getfield 21, 3) := by decide +kernel
theorem dX3_empty_4 : decode cX3_empty 4 = .ok (.istore_n 1, 1) := by decide +kernel
theorem dX3_empty_5 : decode cX3_empty 5 = .ok (.aload_n 0, 1) := by decide +kernel
theorem dX3_empty_6 : decode cX3_empty 6 = .ok (.iconst 0, 1) := by decide +kernel
theorem dX3_empty_7 : decode cX3_empty 7 = .ok (.putfield 21, 3) := by decide +kernel
theorem dX3_empty_10 : decode cX3_empty 10 = .ok (.iload_n 1, 1) := by decide +kernel
theorem dX3_empty_11 : decode cX3_empty 11 = .ok (.ireturn, 1) := by decide +kernel
theorem dX3_copyFrom_0 : decode cX3_copyFrom 0 = .ok (.aload_n 1, 1) := by decide +kernel
theorem dX3_copyFrom_1 : decode cX3_copyFrom 1 = .ok (.getfield 9, 3) := by decide +kernel
theorem dX3_copyFrom_4 : decode cX3_copyFrom 4 = .ok (.iconst 0, 1) := by decide +kernel
theorem dX3_copyFrom_5 : decode cX3_copyFrom 5 = .ok (.aload_n 0, 1) := by decide +kernel
theorem dX3_copyFrom_6 : decode cX3_copyFrom 6 = .ok (.getfield 9, 3) := by decide +kernel
theorem dX3_copyFrom_9 : decode cX3_copyFrom 9 = .ok (.iconst 0, 1) := by decide +kernel
theorem dX3_copyFrom_10 : decode cX3_copyFrom 10 = .ok (.aload_n 0, 1) := by decide +kernel
theorem dX3_copyFrom_11 : decode cX3_copyFrom 11 = .ok (.getfield 9, 3) := by decide +kernel
theorem dX3_copyFrom_14 : decode cX3_copyFrom 14 = .ok (.arraylength, 1) := by decide +kernel
theorem dX3_copyFrom_15 : decode cX3_copyFrom 15 = .ok (.invokestatic 15, 3) := by decide +kernel
theorem dX3_copyFrom_18 : decode cX3_copyFrom 18 = .ok (.aload_n 0, 1) := by decide +kernel
theorem dX3_copyFrom_19 : decode cX3_copyFrom 19 = .ok (.aload_n 1, 1) := by decide +kernel
theorem dX3_copyFrom_20 : decode cX3_copyFrom 20 = .ok (.getfield 21, 3) := by decide +kernel
theorem dX3_copyFrom_23 : decode cX3_copyFrom 23 = .ok (.putfield 21, 3) := by decide +kernel
theorem dX3_copyFrom_26 : decode cX3_copyFrom 26 = .ok (.return_, 1) := by decide +kernel
theorem dX4_init_0 : decode cX4_init 0 = .ok (.aload_n 0, 1) := by decide +kernel
theorem dX4_init_1 : decode cX4_init 1 = .ok (.invokespecial 3, 3) := by decide +kernel
theorem dX4_init_4 : decode cX4_init 4 = .ok (.aload_n 0, 1) := by decide +kernel
theorem dX4_init_5 : decode cX4_init 5 = .ok (.sipush 201, 3) := by decide +kernel
theorem dX4_init_8 : decode cX4_init 8 = .ok (.newarray .int, 2) := by decide +kernel
theorem dX4_init_10 : decode cX4_init 10 = .ok (.putfield 9, 3) := by decide +kernel
theorem dX4_init_13 : decode cX4_init 13 = .ok (.aload_n 0, 1) := by decide +kernel
theorem dX4_init_14 : decode cX4_init 14 = .ok (.sipush 201, 3) := by decide +kernel
theorem dX4_init_17 : decode cX4_init 17 = .ok (.newarray .int, 2) := by decide +kernel
theorem dX4_init_19 : decode cX4_init 19 = .ok (.putfield 15, 3) := by decide +kernel
theorem dX4_init_22 : decode cX4_init 22 = .ok (.aload_n 0, 1) := by decide +kernel
theorem dX4_init_23 : decode cX4_init 23 = .ok (.sipush 201, 3) := by decide +kernel
theorem dX4_init_26 : decode cX4_init 26 = .ok (.newarray .int, 2) := by decide +kernel
theorem dX4_init_28 : decode cX4_init 28 = .ok (.putfield 18, 3) := by decide +kernel
theorem dX4_init_31 : decode cX4_init 31 = .ok (.aload_n 0, 1) := by decide +kernel
theorem dX4_init_32 : decode cX4_init 32 = .ok (.sipush 201, 3) := by decide +kernel
theorem dX4_init_35 : decode cX4_init 35 = .ok (.newarray .int, 2) := by decide +kernel
theorem dX4_init_37 : decode cX4_init 37 = .ok (.putfield 21, 3) := by decide +kernel
theorem dX4_init_40 : decode cX4_init 40 = .ok (.return_, 1) := by decide +kernel
theorem dX4_build_0 : decode cX4_build 0 = .ok (.aload_n 1, 1) := by decide +kernel
theorem dX4_build_1 : decode cX4_build 1 = .ok (.getfield 24, 3) := by decide +kernel
theorem dX4_build_4 : decode cX4_build 4 = .ok (.iconst 1, 1) := by decide +kernel
theorem dX4_build_5 : decode cX4_build 5 = .ok (.iaload, 1) := by decide +kernel
theorem dX4_build_6 : decode cX4_build 6 = .ok (.istore_n 2, 1) := by decide +kernel
theorem dX4_build_7 : decode cX4_build 7 = .ok (.aload_n 1, 1) := by decide +kernel
theorem dX4_build_8 : decode cX4_build 8 = .ok (.getfield 24, 3) := by decide +kernel
theorem dX4_build_11 : decode cX4_build 11 = .ok (.iconst 2, 1) := by decide +kernel
theorem dX4_build_12 : decode cX4_build 12 = .ok (.iaload, 1) := by decide +kernel
theorem dX4_build_13 : decode cX4_build 13 = .ok (.sipush 200, 3) := by decide +kernel
theorem dX4_build_16 : decode cX4_build 16 = .ok (.invokestatic 29, 3) := by decide +kernel
theorem dX4_build_19 : decode cX4_build 19 = .ok (.istore_n 3, 1) := by decide +kernel
theorem dX4_build_20 : decode cX4_build 20 = .ok (.aload_n 1, 1) := by decide +kernel
theorem dX4_build_21 : decode cX4_build 21 = .ok (.getfield 24, 3) := by decide +kernel
theorem dX4_build_24 : decode cX4_build 24 = .ok (.iconst 3, 1) := by decide +kernel
theorem dX4_build_25 : decode cX4_build 25 = .ok (.iaload, 1) := by decide +kernel
theorem dX4_build_26 : decode cX4_build 26 = .ok (.istore 4, 2) := by decide +kernel
theorem dX4_build_28 : decode cX4_build 28 = .ok (.aload_n 1, 1) := by decide +kernel
theorem dX4_build_29 : decode cX4_build 29 = .ok (.getfield 24, 3) := by decide +kernel
theorem dX4_build_32 : decode cX4_build 32 = .ok (.iconst 4, 1) := by decide +kernel
theorem dX4_build_33 : decode cX4_build 33 = .ok (.iaload, 1) := by decide +kernel
theorem dX4_build_34 : decode cX4_build 34 = .ok (.istore 5, 2) := by decide +kernel
theorem dX4_build_36 : decode cX4_build 36 = .ok (.aload_n 0, 1) := by decide +kernel
theorem dX4_build_37 : decode cX4_build 37 = .ok (.getfield 9, 3) := by decide +kernel
theorem dX4_build_40 : decode cX4_build 40 = .ok (.iconst 0, 1) := by decide +kernel
theorem dX4_build_41 : decode cX4_build 41 = .ok (.aload_n 1, 1) := by decide +kernel
theorem dX4_build_42 : decode cX4_build 42 = .ok (.getfield 24, 3) := by decide +kernel
theorem dX4_build_45 : decode cX4_build 45 = .ok (.iconst 0, 1) := by decide +kernel
theorem dX4_build_46 : decode cX4_build 46 = .ok (.iaload, 1) := by decide +kernel
theorem dX4_build_47 : decode cX4_build 47 = .ok (.iastore, 1) := by decide +kernel
theorem dX4_build_48 : decode cX4_build 48 = .ok (.aload_n 0, 1) := by decide +kernel
theorem dX4_build_49 : decode cX4_build 49 = .ok (.getfield 15, 3) := by decide +kernel
theorem dX4_build_52 : decode cX4_build 52 = .ok (.iconst 0, 1) := by decide +kernel
theorem dX4_build_53 : decode cX4_build 53 = .ok (.iconst 0, 1) := by decide +kernel
theorem dX4_build_54 : decode cX4_build 54 = .ok (.iastore, 1) := by decide +kernel
theorem dX4_build_55 : decode cX4_build 55 = .ok (.aload_n 0, 1) := by decide +kernel
theorem dX4_build_56 : decode cX4_build 56 = .ok (.getfield 18, 3) := by decide +kernel
theorem dX4_build_59 : decode cX4_build 59 = .ok (.iconst 0, 1) := by decide +kernel
theorem dX4_build_60 : decode cX4_build 60 = .ok (.iload 4, 2) := by decide +kernel
theorem dX4_build_62 : decode cX4_build 62 = .ok (.iastore, 1) := by decide +kernel
theorem dX4_build_63 : decode cX4_build 63 = .ok (.aload_n 0, 1) := by decide +kernel
theorem dX4_build_64 : decode cX4_build 64 = .ok (.getfield 21, 3) := by decide +kernel
theorem dX4_build_67 : decode cX4_build 67 = .ok (.iconst 0, 1) := by decide +kernel
theorem dX4_build_68 : decode cX4_build 68 = .ok (.aload_n 0, 1) := by decide +kernel
theorem dX4_build_69 : decode cX4_build 69 = .ok (.getfield 9, 3) := by decide +kernel
theorem dX4_build_72 : decode cX4_build 72 = .ok (.iconst 0, 1) := by decide +kernel
theorem dX4_build_73 : decode cX4_build 73 = .ok (.iaload, 1) := by decide +kernel
theorem dX4_build_74 : decode cX4_build 74 = .ok (.iastore, 1) := by decide +kernel
theorem dX4_build_75 : decode cX4_build 75 = .ok (.aload_n 0, 1) := by decide +kernel
theorem dX4_build_76 : decode cX4_build 76 = .ok (.iconst 0, 1) := by decide +kernel
theorem dX4_build_77 : decode cX4_build 77 = .ok (.putfield 35, 3) := by decide +kernel
theorem dX4_build_80 : decode cX4_build 80 = .ok (.iconst 1, 1) := by decide +kernel
theorem dX4_build_81 : decode cX4_build 81 = .ok (.istore 6, 2) := by decide +kernel
theorem dX4_build_83 : decode cX4_build 83 = .ok (.iload 6, 2) := by decide +kernel
theorem dX4_build_85 : decode cX4_build 85 = .ok (.iload_n 3, 1) := by decide +kernel
theorem dX4_build_86 : decode cX4_build 86 = .ok (.if_icmp .gt 143, 3) := by decide +kernel
theorem dX4_build_89 : decode cX4_build 89 = .ok (.aload_n 0, 1) := by decide +kernel
theorem dX4_build_90 : decode cX4_build 90 = .ok (.getfield 9, 3) := by decide +kernel
theorem dX4_build_93 : decode cX4_build 93 = .ok (.iload 6, 2) := by decide +kernel
theorem dX4_build_95 : decode cX4_build 95 = .ok (.iconst 1, 1) := by decide +kernel
theorem dX4_build_96 : decode cX4_build 96 = .ok (.isub, 1) := by decide +kernel
theorem dX4_build_97 : decode cX4_build 97 = .ok (.iaload, 1) := by decide +kernel
theorem dX4_build_98 : decode cX4_build 98 = .ok (.iload_n 2, 1) := by decide +kernel
theorem dX4_build_99 : decode cX4_build 99 = .ok (.if_icmp .le 130, 3) := by decide +kernel
theorem dX4_build_102 : decode cX4_build 102 = .ok (.iconst 4, 1) := by decide +kernel
theorem dX4_build_103 : decode cX4_build 103 = .ok (.iload 6, 2) := by decide +kernel
theorem dX4_build_105 : decode cX4_build 105 = .ok (.imul, 1) := by decide +kernel
theorem dX4_build_106 : decode cX4_build 106 = .ok (.iconst 1, 1) := by decide +kernel
theorem dX4_build_107 : decode cX4_build 107 = .ok (.iadd, 1) := by decide +kernel
theorem dX4_build_108 : decode cX4_build 108 = .ok (.istore 7, 2) := by decide +kernel
theorem dX4_build_110 : decode cX4_build 110 = .ok (.iconst 2, 1) := by decide +kernel
theorem dX4_build_111 : decode cX4_build 111 = .ok (.aload_n 0, 1) := by decide +kernel
theorem dX4_build_112 : decode cX4_build 112 = .ok (.getfield 9, 3) := by decide +kernel
theorem dX4_build_115 : decode cX4_build 115 = .ok (.iload 6, 2) := by decide +kernel
theorem dX4_build_117 : decode cX4_build 117 = .ok (.iconst 1, 1) := by decide +kernel
theorem dX4_build_118 : decode cX4_build 118 = .ok (.isub, 1) := by decide +kernel
theorem dX4_build_119 : decode cX4_build 119 = .ok (.iaload, 1) := by decide +kernel
theorem dX4_build_120 : decode cX4_build 120 = .ok (.imul, 1) := by decide +kernel
theorem dX4_build_121 : decode cX4_build 121 = .ok (.aload_n 0, 1) := by decide +kernel
theorem dX4_build_122 : decode cX4_build 122 = .ok (.getfield 15, 3) := by decide +kernel
theorem dX4_build_125 : decode cX4_build 125 = .ok (.iload 6, 2) := by decide +kernel
theorem dX4_build_127 : decode cX4_build 127 = .ok (.iconst 1, 1) := by decide +kernel
theorem dX4_build_128 : decode cX4_build 128 = .ok (.isub, 1) := by decide +kernel
theorem dX4_build_129 : decode cX4_build 129 = .ok (.iaload, 1) := by decide +kernel
theorem dX4_build_130 : decode cX4_build 130 = .ok (.iadd, 1) := by decide +kernel
theorem dX4_build_131 : decode cX4_build 131 = .ok (.istore 8, 2) := by decide +kernel
theorem dX4_build_133 : decode cX4_build 133 = .ok (.aload_n 0, 1) := by decide +kernel
theorem dX4_build_134 : decode cX4_build 134 = .ok (.getfield 9, 3) := by decide +kernel
theorem dX4_build_137 : decode cX4_build 137 = .ok (.iload 6, 2) := by decide +kernel
theorem dX4_build_139 : decode cX4_build 139 = .ok (.iload_n 2, 1) := by decide +kernel
theorem dX4_build_140 : decode cX4_build 140 = .ok (.aload_n 0, 1) := by decide +kernel
theorem dX4_build_141 : decode cX4_build 141 = .ok (.getfield 9, 3) := by decide +kernel
theorem dX4_build_144 : decode cX4_build 144 = .ok (.iload 6, 2) := by decide +kernel
theorem dX4_build_146 : decode cX4_build 146 = .ok (.iconst 1, 1) := by decide +kernel
theorem dX4_build_147 : decode cX4_build 147 = .ok (.isub, 1) := by decide +kernel
theorem dX4_build_148 : decode cX4_build 148 = .ok (.iaload, 1) := by decide +kernel
theorem dX4_build_149 : decode cX4_build 149 = .ok (.iload 8, 2) := by decide +kernel
theorem dX4_build_151 : decode cX4_build 151 = .ok (.iload 7, 2) := by decide +kernel
theorem dX4_build_153 : decode cX4_build 153 = .ok (.idiv, 1) := by decide +kernel
theorem dX4_build_154 : decode cX4_build 154 = .ok (.isub, 1) := by decide +kernel
theorem dX4_build_155 : decode cX4_build 155 = .ok (.invokestatic 39, 3) := by decide +kernel
theorem dX4_build_158 : decode cX4_build 158 = .ok (.iastore, 1) := by decide +kernel
theorem dX4_build_159 : decode cX4_build 159 = .ok (.aload_n 0, 1) := by decide +kernel
theorem dX4_build_160 : decode cX4_build 160 = .ok (.getfield 15, 3) := by decide +kernel
theorem dX4_build_163 : decode cX4_build 163 = .ok (.iload 6, 2) := by decide +kernel
theorem dX4_build_165 : decode cX4_build 165 = .ok (.iload 8, 2) := by decide +kernel
theorem dX4_build_167 : decode cX4_build 167 = .ok (.iload 7, 2) := by decide +kernel
theorem dX4_build_169 : decode cX4_build 169 = .ok (.irem, 1) := by decide +kernel
theorem dX4_build_170 : decode cX4_build 170 = .ok (.iastore, 1) := by decide +kernel
theorem dX4_build_171 : decode cX4_build 171 = .ok (.aload_n 0, 1) := by decide +kernel
theorem dX4_build_172 : decode cX4_build 172 = .ok (.getfield 18, 3) := by decide +kernel
theorem dX4_build_175 : decode cX4_build 175 = .ok (.iload 6, 2) := by decide +kernel
theorem dX4_build_177 : decode cX4_build 177 = .ok (.iconst 0, 1) := by decide +kernel
theorem dX4_build_178 : decode cX4_build 178 = .ok (.iload 4, 2) := by decide +kernel
theorem dX4_build_180 : decode cX4_build 180 = .ok (.iload 6, 2) := by decide +kernel
theorem dX4_build_182 : decode cX4_build 182 = .ok (.iload 5, 2) := by decide +kernel
theorem dX4_build_184 : decode cX4_build 184 = .ok (.imul, 1) := by decide +kernel
theorem dX4_build_185 : decode cX4_build 185 = .ok (.bipush 16, 2) := by decide +kernel
theorem dX4_build_187 : decode cX4_build 187 = .ok (.idiv, 1) := by decide +kernel
theorem dX4_build_188 : decode cX4_build 188 = .ok (.isub, 1) := by decide +kernel
theorem dX4_build_189 : decode cX4_build 189 = .ok (.invokestatic 39, 3) := by decide +kernel
theorem dX4_build_192 : decode cX4_build 192 = .ok (.iastore, 1) := by decide +kernel
theorem dX4_build_193 : decode cX4_build 193 = .ok (.aload_n 0, 1) := by decide +kernel
theorem dX4_build_194 : decode cX4_build 194 = .ok (.getfield 21, 3) := by decide +kernel
theorem dX4_build_197 : decode cX4_build 197 = .ok (.iload 6, 2) := by decide +kernel
theorem dX4_build_199 : decode cX4_build 199 = .ok (.aload_n 0, 1) := by decide +kernel
theorem dX4_build_200 : decode cX4_build 200 = .ok (.getfield 21, 3) := by decide +kernel
theorem dX4_build_203 : decode cX4_build 203 = .ok (.iload 6, 2) := by decide +kernel
theorem dX4_build_205 : decode cX4_build 205 = .ok (.iconst 1, 1) := by decide +kernel
theorem dX4_build_206 : decode cX4_build 206 = .ok (.isub, 1) := by decide +kernel
theorem dX4_build_207 : decode cX4_build 207 = .ok (.iaload, 1) := by decide +kernel
theorem dX4_build_208 : decode cX4_build 208 = .ok (.aload_n 0, 1) := by decide +kernel
theorem dX4_build_209 : decode cX4_build 209 = .ok (.getfield 9, 3) := by decide +kernel
theorem dX4_build_212 : decode cX4_build 212 = .ok (.iload 6, 2) := by decide +kernel
theorem dX4_build_214 : decode cX4_build 214 = .ok (.iaload, 1) := by decide +kernel
theorem dX4_build_215 : decode cX4_build 215 = .ok (.iadd, 1) := by decide +kernel
theorem dX4_build_216 : decode cX4_build 216 = .ok (.iastore, 1) := by decide +kernel
theorem dX4_build_217 : decode cX4_build 217 = .ok (.aload_n 0, 1) := by decide +kernel
theorem dX4_build_218 : decode cX4_build 218 = .ok (.iload 6, 2) := by decide +kernel
theorem dX4_build_220 : decode cX4_build 220 = .ok (.putfield 35, 3) := by decide +kernel
theorem dX4_build_223 : decode cX4_build 223 = .ok (.iinc 6 1, 3) := by decide +kernel
theorem dX4_build_226 : decode cX4_build 226 = .ok (.goto (-143), 3) := by decide +kernel
theorem dX4_build_229 : decode cX4_build 229 = .ok (.return_, 1) := by decide +kernel
set_option maxRecDepth 20000 in
theorem ggX4_interval_X8_within : GoodIn wsX4_interval wsX8_within := goodIn_r _ [4] (by decide +kernel) (by decide +kernel)
set_option maxRecDepth 20000 in
theorem gX4_interval_X8_within_n42 : GoodIn wsX4_interval (wsX8_within) := ggX4_interval_X8_within
theorem dX4_interval_0 : decode cX4_interval 0 = .ok (.iload_n 1, 1) := by decide +kernel
theorem dX4_interval_1 : decode cX4_interval 1 = .ok (.iconst 0, 1) := by decide +kernel
theorem dX4_interval_2 : decode cX4_interval 2 = .ok (.sipush 200, 3) := by decide +kernel
theorem dX4_interval_5 : decode cX4_interval 5 = .ok (.invokestatic 42, 3) := by decide +kernel
theorem dX4_interval_8 : decode cX4_interval 8 = .ok (.ifCond .eq 12, 3) := by decide +kernel
theorem dX4_interval_11 : decode cX4_interval 11 = .ok (.aload_n 0, 1) := by decide +kernel
theorem dX4_interval_12 : decode cX4_interval 12 = .ok (.getfield 9, 3) := by decide +kernel
theorem dX4_interval_15 : decode cX4_interval 15 = .ok (.iload_n 1, 1) := by decide +kernel
theorem dX4_interval_16 : decode cX4_interval 16 = .ok (.iaload, 1) := by decide +kernel
theorem dX4_interval_17 : decode cX4_interval 17 = .ok (.goto 4, 3) := by decide +kernel
theorem dX4_interval_20 : decode cX4_interval 20 = .ok (.iconst 0, 1) := by decide +kernel
theorem dX4_interval_21 : decode cX4_interval 21 = .ok (.ireturn, 1) := by decide +kernel
set_option maxRecDepth 20000 in
theorem ggX4_pull_X8_within : GoodIn wsX4_pull wsX8_within := goodIn_r _ [4] (by decide +kernel) (by decide +kernel)
set_option maxRecDepth 20000 in
theorem gX4_pull_X8_within_n42 : GoodIn wsX4_pull (wsX8_within) := ggX4_pull_X8_within
theorem dX4_pull_0 : decode cX4_pull 0 = .ok (.iload_n 1, 1) := by decide +kernel
theorem dX4_pull_1 : decode cX4_pull 1 = .ok (.iconst 0, 1) := by decide +kernel
theorem dX4_pull_2 : decode cX4_pull 2 = .ok (.sipush 200, 3) := by decide +kernel
theorem dX4_pull_5 : decode cX4_pull 5 = .ok (.invokestatic 42, 3) := by decide +kernel
theorem dX4_pull_8 : decode cX4_pull 8 = .ok (.ifCond .eq 12, 3) := by decide +kernel
theorem dX4_pull_11 : decode cX4_pull 11 = .ok (.aload_n 0, 1) := by decide +kernel
theorem dX4_pull_12 : decode cX4_pull 12 = .ok (.getfield 18, 3) := by decide +kernel
theorem dX4_pull_15 : decode cX4_pull 15 = .ok (.iload_n 1, 1) := by decide +kernel
theorem dX4_pull_16 : decode cX4_pull 16 = .ok (.iaload, 1) := by decide +kernel
theorem dX4_pull_17 : decode cX4_pull 17 = .ok (.goto 4, 3) := by decide +kernel
theorem dX4_pull_20 : decode cX4_pull 20 = .ok (.iconst 0, 1) := by decide +kernel
theorem dX4_pull_21 : decode cX4_pull 21 = .ok (.ireturn, 1) := by decide +kernel
set_option maxRecDepth 20000 in
theorem ggX4_sum_X8_within : GoodIn wsX4_sum wsX8_within := goodIn_r _ [4] (by decide +kernel) (by decide +kernel)
set_option maxRecDepth 20000 in
theorem gX4_sum_X8_within_n42 : GoodIn wsX4_sum (wsX8_within) := ggX4_sum_X8_within
theorem dX4_sum_0 : decode cX4_sum 0 = .ok (.iload_n 1, 1) := by decide +kernel
theorem dX4_sum_1 : decode cX4_sum 1 = .ok (.iconst 0, 1) := by decide +kernel
theorem dX4_sum_2 : decode cX4_sum 2 = .ok (.sipush 200, 3) := by decide +kernel
theorem dX4_sum_5 : decode cX4_sum 5 = .ok (.invokestatic 42, 3) := by decide +kernel
theorem dX4_sum_8 : decode cX4_sum 8 = .ok (.ifCond .eq 12, 3) := by decide +kernel
theorem dX4_sum_11 : decode cX4_sum 11 = .ok (.aload_n 0, 1) := by decide +kernel
theorem dX4_sum_12 : decode cX4_sum 12 = .ok (.getfield 21, 3) := by decide +kernel
theorem dX4_sum_15 : decode cX4_sum 15 = .ok (.iload_n 1, 1) := by decide +kernel
theorem dX4_sum_16 : decode cX4_sum 16 = .ok (.iaload, 1) := by decide +kernel
theorem dX4_sum_17 : decode cX4_sum 17 = .ok (.goto 4, 3) := by decide +kernel
theorem dX4_sum_20 : decode cX4_sum 20 = .ok (.iconst 0, 1) := by decide +kernel
theorem dX4_sum_21 : decode cX4_sum 21 = .ok (.ireturn, 1) := by decide +kernel
theorem dX4_indexOf_0 : decode cX4_indexOf 0 = .ok (.aload_n 0, 1) := by decide +kernel
theorem dX4_indexOf_1 : decode cX4_indexOf 1 = .ok (.getfield 35, 3) := by decide +kernel
theorem dX4_indexOf_4 : decode cX4_indexOf 4 = .ok (.iload_n 1, 1) := by decide +kernel
theorem dX4_indexOf_5 : decode cX4_indexOf 5 = .ok (.iload_n 2, 1) := by decide +kernel
theorem dX4_indexOf_6 : decode cX4_indexOf 6 = .ok (.iconst 1, 1) := by decide +kernel
theorem dX4_indexOf_7 : decode cX4_indexOf 7 = .ok (.isub, 1) := by decide +kernel
theorem dX4_indexOf_8 : decode cX4_indexOf 8 = .ok (.iload_n 1, 1) := by decide +kernel
theorem dX4_indexOf_9 : decode cX4_indexOf 9 = .ok (.isub, 1) := by decide +kernel
theorem dX4_indexOf_10 : decode cX4_indexOf 10 = .ok (.invokestatic 29, 3) := by decide +kernel
theorem dX4_indexOf_13 : decode cX4_indexOf 13 = .ok (.invokestatic 29, 3) := by decide +kernel
theorem dX4_indexOf_16 : decode cX4_indexOf 16 = .ok (.ireturn, 1) := by decide +kernel
theorem dX4_greatestIndex_0 : decode cX4_greatestIndex 0 = .ok (.iload_n 1, 1) := by decide +kernel
theorem dX4_greatestIndex_1 : decode cX4_greatestIndex 1 = .ok (.ifCond .gt 7, 3) := by decide +kernel
theorem dX4_greatestIndex_4 : decode cX4_greatestIndex 4 = .ok (.iconst 0, 1) := by decide +kernel
theorem dX4_greatestIndex_5 : decode cX4_greatestIndex 5 = .ok (.goto 15, 3) := by decide +kernel
theorem dX4_greatestIndex_8 : decode cX4_greatestIndex 8 = .ok (.aload_n 0, 1) := by decide +kernel
theorem dX4_greatestIndex_9 : decode cX4_greatestIndex 9 = .ok (.getfield 35, 3) := by decide +kernel
theorem dX4_greatestIndex_12 : decode cX4_greatestIndex 12 = .ok (.iload_n 1, 1) := by decide +kernel
theorem dX4_greatestIndex_13 : decode cX4_greatestIndex 13 = .ok (.iconst 1, 1) := by decide +kernel
theorem dX4_greatestIndex_14 : decode cX4_greatestIndex 14 = .ok (.isub, 1) := by decide +kernel
theorem dX4_greatestIndex_15 : decode cX4_greatestIndex 15 = .ok (.iconst 2, 1) := by decide +kernel
theorem dX4_greatestIndex_16 : decode cX4_greatestIndex 16 = .ok (.idiv, 1) := by decide +kernel
theorem dX4_greatestIndex_17 : decode cX4_greatestIndex 17 = .ok (.invokestatic 29, 3) := by decide +kernel
theorem dX4_greatestIndex_20 : decode cX4_greatestIndex 20 = .ok (.ireturn, 1) := by decide +kernel
set_option maxRecDepth 20000 in
theorem ggX4_time_X4_sum : GoodIn wsX4_time wsX4_sum := goodIn_r _ [10, 11, 12, 13, 14, 20, 21, 22, 23, 24] (by decide +kernel) (by decide +kernel)
set_option maxRecDepth 20000 in
theorem gX4_time_X4_sum : GoodIn wsX4_time (wsV RX4 46 RX4 yX4_sum wsX4_sum) := goodIn_app (goodIn_of _ (by decide +kernel)) ggX4_time_X4_sum
set_option maxRecDepth 20000 in
theorem ggX4_time_X4_interval : GoodIn wsX4_time wsX4_interval := goodIn_r _ [18, 19, 12, 13, 14, 20, 21, 22, 23, 24] (by decide +kernel) (by decide +kernel)
set_option maxRecDepth 20000 in
theorem gX4_time_X4_interval : GoodIn wsX4_time (wsV RX4 50 RX4 yX4_interval wsX4_interval) := goodIn_app (goodIn_of _ (by decide +kernel)) ggX4_time_X4_interval
theorem dX4_time_0 : decode cX4_time 0 = .ok (.iload_n 1, 1) := by decide +kernel
theorem dX4_time_1 : decode cX4_time 1 = .ok (.iconst 2, 1) := by decide +kernel
theorem dX4_time_2 : decode cX4_time 2 = .ok (.idiv, 1) := by decide +kernel
theorem dX4_time_3 : decode cX4_time 3 = .ok (.istore_n 2, 1) := by decide +kernel
theorem dX4_time_4 : decode cX4_time 4 = .ok (.iload_n 2, 1) := by decide +kernel
theorem dX4_time_5 : decode cX4_time 5 = .ok (.aload_n 0, 1) := by decide +kernel
theorem dX4_time_6 : decode cX4_time 6 = .ok (.getfield 35, 3) := by decide +kernel
theorem dX4_time_9 : decode cX4_time 9 = .ok (.invokestatic 29, 3) := by decide +kernel
theorem dX4_time_12 : decode cX4_time 12 = .ok (.istore_n 3, 1) := by decide +kernel
theorem dX4_time_13 : decode cX4_time 13 = .ok (.aload_n 0, 1) := by decide +kernel
theorem dX4_time_14 : decode cX4_time 14 = .ok (.iload_n 3, 1) := by decide +kernel
theorem dX4_time_15 : decode cX4_time 15 = .ok (.iconst 1, 1) := by decide +kernel
theorem dX4_time_16 : decode cX4_time 16 = .ok (.isub, 1) := by decide +kernel
theorem dX4_time_17 : decode cX4_time 17 = .ok (.invokevirtual 46, 3) := by decide +kernel
theorem dX4_time_20 : decode cX4_time 20 = .ok (.iload_n 2, 1) := by decide +kernel
theorem dX4_time_21 : decode cX4_time 21 = .ok (.iload_n 3, 1) := by decide +kernel
theorem dX4_time_22 : decode cX4_time 22 = .ok (.isub, 1) := by decide +kernel
theorem dX4_time_23 : decode cX4_time 23 = .ok (.aload_n 0, 1) := by decide +kernel
theorem dX4_time_24 : decode cX4_time 24 = .ok (.aload_n 0, 1) := by decide +kernel
theorem dX4_time_25 : decode cX4_time 25 = .ok (.getfield 35, 3) := by decide +kernel
theorem dX4_time_28 : decode cX4_time 28 = .ok (.invokevirtual 50, 3) := by decide +kernel
theorem dX4_time_31 : decode cX4_time 31 = .ok (.imul, 1) := by decide +kernel
theorem dX4_time_32 : decode cX4_time 32 = .ok (.iadd, 1) := by decide +kernel
theorem dX4_time_33 : decode cX4_time 33 = .ok (.istore 4, 2) := by decide +kernel
theorem dX4_time_35 : decode cX4_time 35 = .ok (.iload_n 1, 1) := by decide +kernel
theorem dX4_time_36 : decode cX4_time 36 = .ok (.iconst 2, 1) := by decide +kernel
theorem dX4_time_37 : decode cX4_time 37 = .ok (.irem, 1) := by decide +kernel
theorem dX4_time_38 : decode cX4_time 38 = .ok (.ifCond .ne 7, 3) := by decide +kernel
theorem dX4_time_41 : decode cX4_time 41 = .ok (.iconst 0, 1) := by decide +kernel
theorem dX4_time_42 : decode cX4_time 42 = .ok (.goto 15, 3) := by decide +kernel
theorem dX4_time_45 : decode cX4_time 45 = .ok (.aload_n 0, 1) := by decide +kernel
theorem dX4_time_46 : decode cX4_time 46 = .ok (.iload_n 2, 1) := by decide +kernel
theorem dX4_time_47 : decode cX4_time 47 = .ok (.aload_n 0, 1) := by decide +kernel
theorem dX4_time_48 : decode cX4_time 48 = .ok (.getfield 35, 3) := by decide +kernel
theorem dX4_time_51 : decode cX4_time 51 = .ok (.invokestatic 29, 3) := by decide +kernel
theorem dX4_time_54 : decode cX4_time 54 = .ok (.invokevirtual 50, 3) := by decide +kernel
theorem dX4_time_57 : decode cX4_time 57 = .ok (.istore 5, 2) := by decide +kernel
theorem dX4_time_59 : decode cX4_time 59 = .ok (.iconst 2, 1) := by decide +kernel
theorem dX4_time_60 : decode cX4_time 60 = .ok (.iload 4, 2) := by decide +kernel
theorem dX4_time_62 : decode cX4_time 62 = .ok (.imul, 1) := by decide +kernel
theorem dX4_time_63 : decode cX4_time 63 = .ok (.iload 5, 2) := by decide +kernel
theorem dX4_time_65 : decode cX4_time 65 = .ok (.iadd, 1) := by decide +kernel
theorem dX4_time_66 : decode cX4_time 66 = .ok (.ireturn, 1) := by decide +kernel
theorem dX5_init_0 : decode cX5_init 0 = .ok (.aload_n 0, 1) := by decide +kernel
theorem dX5_init_1 : decode cX5_init 1 = .ok (.invokespecial 3, 3) := by decide +kernel
theorem dX5_init_4 : decode cX5_init 4 = .ok (.return_, 1) := by decide +kernel
theorem dX6_init_0 : decode cX6_init 0 = .ok (.aload_n 0, 1) := by decide +kernel
theorem dX6_init_1 : decode cX6_init 1 = .ok (.invokespecial 3, 3) := by decide +kernel
theorem dX6_init_4 : decode cX6_init 4 = .ok (.aload_n 0, 1) := by decide +kernel
theorem dX6_init_5 : decode cX6_init 5 = .ok (.bipush 60, 2) := by decide +kernel
theorem dX6_init_7 : decode cX6_init 7 = .ok (.newarray .char, 2) := by decide +kernel
theorem dX6_init_9 : decode cX6_init 9 = .ok (.putfield 9, 3) := by decide +kernel
theorem dX6_init_12 : decode cX6_init 12 = .ok (.return_, 1) := by decide +kernel
set_option maxRecDepth 20000 in
theorem ggX7_init_X2_init : GoodIn wsX7_init wsX2_init := goodIn_r _ [22, 23, 2, 3, 24, 25, 26, 27, 45, 46, 47, 48] (by decide +kernel) (by decide +kernel)
set_option maxRecDepth 20000 in
theorem gX7_init_X2_init_n25 : GoodIn wsX7_init (wsX2_init) := ggX7_init_X2_init
set_option maxRecDepth 20000 in
theorem ggX7_init_X3_init : GoodIn wsX7_init wsX3_init := goodIn_r _ [29, 30, 2, 3, 24, 31, 49, 50] (by decide +kernel) (by decide +kernel)
set_option maxRecDepth 20000 in
theorem gX7_init_X3_init_n32 : GoodIn wsX7_init (wsX3_init) := ggX7_init_X3_init
theorem dX7_init_0 : decode cX7_init 0 = .ok (.aload_n 0, 1) := by decide +kernel
theorem dX7_init_1 : decode cX7_init 1 = .ok (.invokespecial 3, 3) := by decide +kernel
theorem dX7_init_4 : decode cX7_init 4 = .ok (.aload_n 0, 1) := by decide +kernel
theorem dX7_init_5 : decode cX7_init 5 = .ok (.getstatic 9, 3) := by decide +kernel
theorem dX7_init_8 : decode cX7_init 8 = .ok (.invokevirtual 13, 3) := by decide +kernel
theorem dX7_init_11 : decode cX7_init 11 = .ok (.checkcast 14, 3) := by decide +kernel
theorem dX7_init_14 : decode cX7_init 14 = .ok (.putfield 18, 3) := by decide +kernel
theorem dX7_init_17 : decode cX7_init 17 = .ok (.aload_n 0, 1) := by decide +kernel
theorem dX7_init_18 : decode cX7_init 18 = .ok (.new 23, 3) := by decide +kernel
theorem dX7_init_21 : decode cX7_init 21 = .ok (.dup, 1) := by decide +kernel
theorem dX7_init_22 : decode cX7_init 22 = .ok (.invokespecial 25, 3) := by decide +kernel
theorem dX7_init_25 : decode cX7_init 25 = .ok (.putfield 26, 3) := by decide +kernel
theorem dX7_init_28 : decode cX7_init 28 = .ok (.aload_n 0, 1) := by decide +kernel
theorem dX7_init_29 : decode cX7_init 29 = .ok (.new 30, 3) := by decide +kernel
theorem dX7_init_32 : decode cX7_init 32 = .ok (.dup, 1) := by decide +kernel
theorem dX7_init_33 : decode cX7_init 33 = .ok (.invokespecial 32, 3) := by decide +kernel
theorem dX7_init_36 : decode cX7_init 36 = .ok (.putfield 33, 3) := by decide +kernel
theorem dX7_init_39 : decode cX7_init 39 = .ok (.aload_n 0, 1) := by decide +kernel
theorem dX7_init_40 : decode cX7_init 40 = .ok (.sipush (-1000), 3) := by decide +kernel
theorem dX7_init_43 : decode cX7_init 43 = .ok (.putfield 37, 3) := by decide +kernel
theorem dX7_init_46 : decode cX7_init 46 = .ok (.aload_n 0, 1) := by decide +kernel
theorem dX7_init_47 : decode cX7_init 47 = .ok (.sipush 1000, 3) := by decide +kernel
theorem dX7_init_50 : decode cX7_init 50 = .ok (.putfield 41, 3) := by decide +kernel
theorem dX7_init_53 : decode cX7_init 53 = .ok (.return_, 1) := by decide +kernel
set_option maxRecDepth 20000 in
theorem ggX7_putSetting_X8_within : GoodIn wsX7_putSetting wsX8_within := goodIn_r _ [5] (by decide +kernel) (by decide +kernel)
set_option maxRecDepth 20000 in
theorem gX7_putSetting_X8_within_n44 : GoodIn wsX7_putSetting (wsX8_within) := ggX7_putSetting_X8_within
theorem dX7_putSetting_0 : decode cX7_putSetting 0 = .ok (.iload_n 1, 1) := by decide +kernel
theorem dX7_putSetting_1 : decode cX7_putSetting 1 = .ok (.iconst 0, 1) := by decide +kernel
theorem dX7_putSetting_2 : decode cX7_putSetting 2 = .ok (.bipush 7, 2) := by decide +kernel
theorem dX7_putSetting_4 : decode cX7_putSetting 4 = .ok (.invokestatic 44, 3) := by decide +kernel
theorem dX7_putSetting_7 : decode cX7_putSetting 7 = .ok (.ifCond .eq 20, 3) := by decide +kernel
theorem dX7_putSetting_10 : decode cX7_putSetting 10 = .ok (.iload_n 2, 1) := by decide +kernel
theorem dX7_putSetting_11 : decode cX7_putSetting 11 = .ok (.getstatic 48, 3) := by decide +kernel
theorem dX7_putSetting_14 : decode cX7_putSetting 14 = .ok (.iload_n 1, 1) := by decide +kernel
theorem dX7_putSetting_15 : decode cX7_putSetting 15 = .ok (.iaload, 1) := by decide +kernel
theorem dX7_putSetting_16 : decode cX7_putSetting 16 = .ok (.getstatic 51, 3) := by decide +kernel
theorem dX7_putSetting_19 : decode cX7_putSetting 19 = .ok (.iload_n 1, 1) := by decide +kernel
theorem dX7_putSetting_20 : decode cX7_putSetting 20 = .ok (.iaload, 1) := by decide +kernel
theorem dX7_putSetting_21 : decode cX7_putSetting 21 = .ok (.invokestatic 44, 3) := by decide +kernel
theorem dX7_putSetting_24 : decode cX7_putSetting 24 = .ok (.ifCond .ne 6, 3) := by decide +kernel
theorem dX7_putSetting_27 : decode cX7_putSetting 27 = .ok (.ldc 54, 2) := by decide +kernel
theorem dX7_putSetting_29 : decode cX7_putSetting 29 = .ok (.ireturn, 1) := by decide +kernel
theorem dX7_putSetting_30 : decode cX7_putSetting 30 = .ok (.aload_n 0, 1) := by decide +kernel
theorem dX7_putSetting_31 : decode cX7_putSetting 31 = .ok (.getfield 18, 3) := by decide +kernel
theorem dX7_putSetting_34 : decode cX7_putSetting 34 = .ok (.iload_n 1, 1) := by decide +kernel
theorem dX7_putSetting_35 : decode cX7_putSetting 35 = .ok (.iaload, 1) := by decide +kernel
theorem dX7_putSetting_36 : decode cX7_putSetting 36 = .ok (.istore_n 3, 1) := by decide +kernel
theorem dX7_putSetting_37 : decode cX7_putSetting 37 = .ok (.aload_n 0, 1) := by decide +kernel
theorem dX7_putSetting_38 : decode cX7_putSetting 38 = .ok (.getfield 18, 3) := by decide +kernel
theorem dX7_putSetting_41 : decode cX7_putSetting 41 = .ok (.iload_n 1, 1) := by decide +kernel
theorem dX7_putSetting_42 : decode cX7_putSetting 42 = .ok (.iload_n 2, 1) := by decide +kernel
theorem dX7_putSetting_43 : decode cX7_putSetting 43 = .ok (.iastore, 1) := by decide +kernel
theorem dX7_putSetting_44 : decode cX7_putSetting 44 = .ok (.iload_n 3, 1) := by decide +kernel
theorem dX7_putSetting_45 : decode cX7_putSetting 45 = .ok (.ireturn, 1) := by decide +kernel
set_option maxRecDepth 20000 in
theorem ggX7_putLimits_X8_within : GoodIn wsX7_putLimits wsX8_within := goodIn_r _ [7] (by decide +kernel) (by decide +kernel)
set_option maxRecDepth 20000 in
theorem gX7_putLimits_X8_within_n44 : GoodIn wsX7_putLimits (wsX8_within) := ggX7_putLimits_X8_within
theorem dX7_putLimits_0 : decode cX7_putLimits 0 = .ok (.iload_n 1, 1) := by decide +kernel
theorem dX7_putLimits_1 : decode cX7_putLimits 1 = .ok (.sipush (-2000), 3) := by decide +kernel
theorem dX7_putLimits_4 : decode cX7_putLimits 4 = .ok (.sipush 2000, 3) := by decide +kernel
theorem dX7_putLimits_7 : decode cX7_putLimits 7 = .ok (.invokestatic 44, 3) := by decide +kernel
theorem dX7_putLimits_10 : decode cX7_putLimits 10 = .ok (.ifCond .eq 14, 3) := by decide +kernel
theorem dX7_putLimits_13 : decode cX7_putLimits 13 = .ok (.iload_n 2, 1) := by decide +kernel
theorem dX7_putLimits_14 : decode cX7_putLimits 14 = .ok (.iload_n 1, 1) := by decide +kernel
theorem dX7_putLimits_15 : decode cX7_putLimits 15 = .ok (.sipush 2000, 3) := by decide +kernel
theorem dX7_putLimits_18 : decode cX7_putLimits 18 = .ok (.invokestatic 44, 3) := by decide +kernel
theorem dX7_putLimits_21 : decode cX7_putLimits 21 = .ok (.ifCond .ne 6, 3) := by decide +kernel
theorem dX7_putLimits_24 : decode cX7_putLimits 24 = .ok (.ldc 54, 2) := by decide +kernel
theorem dX7_putLimits_26 : decode cX7_putLimits 26 = .ok (.ireturn, 1) := by decide +kernel
theorem dX7_putLimits_27 : decode cX7_putLimits 27 = .ok (.aload_n 0, 1) := by decide +kernel
theorem dX7_putLimits_28 : decode cX7_putLimits 28 = .ok (.iload_n 1, 1) := by decide +kernel
theorem dX7_putLimits_29 : decode cX7_putLimits 29 = .ok (.putfield 37, 3) := by decide +kernel
theorem dX7_putLimits_32 : decode cX7_putLimits 32 = .ok (.aload_n 0, 1) := by decide +kernel
theorem dX7_putLimits_33 : decode cX7_putLimits 33 = .ok (.iload_n 2, 1) := by decide +kernel
theorem dX7_putLimits_34 : decode cX7_putLimits 34 = .ok (.putfield 41, 3) := by decide +kernel
theorem dX7_putLimits_37 : decode cX7_putLimits 37 = .ok (.aload_n 0, 1) := by decide +kernel
theorem dX7_putLimits_38 : decode cX7_putLimits 38 = .ok (.getfield 55, 3) := by decide +kernel
theorem dX7_putLimits_41 : decode cX7_putLimits 41 = .ok (.iload_n 1, 1) := by decide +kernel
theorem dX7_putLimits_42 : decode cX7_putLimits 42 = .ok (.iload_n 2, 1) := by decide +kernel
theorem dX7_putLimits_43 : decode cX7_putLimits 43 = .ok (.invokestatic 44, 3) := by decide +kernel
theorem dX7_putLimits_46 : decode cX7_putLimits 46 = .ok (.ifCond .eq 7, 3) := by decide +kernel
theorem dX7_putLimits_49 : decode cX7_putLimits 49 = .ok (.iconst 1, 1) := by decide +kernel
theorem dX7_putLimits_50 : decode cX7_putLimits 50 = .ok (.goto 4, 3) := by decide +kernel
theorem dX7_putLimits_53 : decode cX7_putLimits 53 = .ok (.iconst 0, 1) := by decide +kernel
theorem dX7_putLimits_54 : decode cX7_putLimits 54 = .ok (.ireturn, 1) := by decide +kernel
set_option maxRecDepth 20000 in
theorem ggX7_takeStep_X8_isBeyondEnd : GoodIn wsX7_takeStep wsX8_isBeyondEnd := goodIn_r _ [10] (by decide +kernel) (by decide +kernel)
set_option maxRecDepth 20000 in
theorem gX7_takeStep_X8_isBeyondEnd_n61 : GoodIn wsX7_takeStep (wsX8_isBeyondEnd) := ggX7_takeStep_X8_isBeyondEnd
set_option maxRecDepth 20000 in
theorem ggX7_takeStep_X2_weightAt : GoodIn wsX7_takeStep wsX2_weightAt := goodIn_r _ [15, 16, 17, 18, 19, 40, 41, 42, 43] (by decide +kernel) (by decide +kernel)
set_option maxRecDepth 20000 in
theorem gX7_takeStep_X2_weightAt : GoodIn wsX7_takeStep (wsV RX7 65 RX2 yX2_weightAt wsX2_weightAt) := goodIn_app (goodIn_of _ (by decide +kernel)) ggX7_takeStep_X2_weightAt
set_option maxRecDepth 20000 in
theorem ggX7_takeStep_X7_moveSwitch : GoodIn wsX7_takeStep wsX7_moveSwitch := goodIn_r _ [24, 1, 25, 26, 27, 28, 29, 30, 31, 32, 33, 34, 35, 36, 37, 38, 39] (by decide +kernel) (by decide +kernel)
set_option maxRecDepth 20000 in
theorem gX7_takeStep_X7_moveSwitch : GoodIn wsX7_takeStep (wsV RX7 79 RX7 yX7_moveSwitch wsX7_moveSwitch) := goodIn_app (goodIn_of _ (by decide +kernel)) ggX7_takeStep_X7_moveSwitch
theorem dX7_takeStep_0 : decode cX7_takeStep 0 = .ok (.aload_n 0, 1) := by decide +kernel
theorem dX7_takeStep_1 : decode cX7_takeStep 1 = .ok (.getfield 58, 3) := by decide +kernel
theorem dX7_takeStep_4 : decode cX7_takeStep 4 = .ok (.iload_n 1, 1) := by decide +kernel
theorem dX7_takeStep_5 : decode cX7_takeStep 5 = .ok (.iadd, 1) := by decide +kernel
theorem dX7_takeStep_6 : decode cX7_takeStep 6 = .ok (.istore 4, 2) := by decide +kernel
theorem dX7_takeStep_8 : decode cX7_takeStep 8 = .ok (.aload_n 0, 1) := by decide +kernel
theorem dX7_takeStep_9 : decode cX7_takeStep 9 = .ok (.dup, 1) := by decide +kernel
theorem dX7_takeStep_10 : decode cX7_takeStep 10 = .ok (.getfield 55, 3) := by decide +kernel
theorem dX7_takeStep_13 : decode cX7_takeStep 13 = .ok (.iload_n 1, 1) := by decide +kernel
theorem dX7_takeStep_14 : decode cX7_takeStep 14 = .ok (.iadd, 1) := by decide +kernel
theorem dX7_takeStep_15 : decode cX7_takeStep 15 = .ok (.putfield 55, 3) := by decide +kernel
theorem dX7_takeStep_18 : decode cX7_takeStep 18 = .ok (.iload 4, 2) := by decide +kernel
theorem dX7_takeStep_20 : decode cX7_takeStep 20 = .ok (.invokestatic 61, 3) := by decide +kernel
theorem dX7_takeStep_23 : decode cX7_takeStep 23 = .ok (.ifCond .ne 18, 3) := by decide +kernel
theorem dX7_takeStep_26 : decode cX7_takeStep 26 = .ok (.aload_n 0, 1) := by decide +kernel
theorem dX7_takeStep_27 : decode cX7_takeStep 27 = .ok (.getfield 26, 3) := by decide +kernel
theorem dX7_takeStep_30 : decode cX7_takeStep 30 = .ok (.aload_n 0, 1) := by decide +kernel
theorem dX7_takeStep_31 : decode cX7_takeStep 31 = .ok (.getfield 58, 3) := by decide +kernel
theorem dX7_takeStep_34 : decode cX7_takeStep 34 = .ok (.invokevirtual 65, 3) := by decide +kernel
theorem dX7_takeStep_37 : decode cX7_takeStep 37 = .ok (.iload_n 3, 1) := by decide +kernel
theorem dX7_takeStep_38 : decode cX7_takeStep 38 = .ok (.if_icmp .le 16, 3) := by decide +kernel
theorem dX7_takeStep_41 : decode cX7_takeStep 41 = .ok (.aload_n 0, 1) := by decide +kernel
theorem dX7_takeStep_42 : decode cX7_takeStep 42 = .ok (.dup, 1) := by decide +kernel
theorem dX7_takeStep_43 : decode cX7_takeStep 43 = .ok (.getfield 69, 3) := by decide +kernel
theorem dX7_takeStep_46 : decode cX7_takeStep 46 = .ok (.iconst 1, 1) := by decide +kernel
theorem dX7_takeStep_47 : decode cX7_takeStep 47 = .ok (.iadd, 1) := by decide +kernel
theorem dX7_takeStep_48 : decode cX7_takeStep 48 = .ok (.putfield 69, 3) := by decide +kernel
theorem dX7_takeStep_51 : decode cX7_takeStep 51 = .ok (.goto 9, 3) := by decide +kernel
theorem dX7_takeStep_54 : decode cX7_takeStep 54 = .ok (.aload_n 0, 1) := by decide +kernel
theorem dX7_takeStep_55 : decode cX7_takeStep 55 = .ok (.iload 4, 2) := by decide +kernel
theorem dX7_takeStep_57 : decode cX7_takeStep 57 = .ok (.putfield 58, 3) := by decide +kernel
theorem dX7_takeStep_60 : decode cX7_takeStep 60 = .ok (.aload_n 0, 1) := by decide +kernel
theorem dX7_takeStep_61 : decode cX7_takeStep 61 = .ok (.dup, 1) := by decide +kernel
theorem dX7_takeStep_62 : decode cX7_takeStep 62 = .ok (.getfield 72, 3) := by decide +kernel
theorem dX7_takeStep_65 : decode cX7_takeStep 65 = .ok (.iconst 1, 1) := by decide +kernel
theorem dX7_takeStep_66 : decode cX7_takeStep 66 = .ok (.iadd, 1) := by decide +kernel
theorem dX7_takeStep_67 : decode cX7_takeStep 67 = .ok (.putfield 72, 3) := by decide +kernel
theorem dX7_takeStep_70 : decode cX7_takeStep 70 = .ok (.aload_n 0, 1) := by decide +kernel
theorem dX7_takeStep_71 : decode cX7_takeStep 71 = .ok (.aload_n 0, 1) := by decide +kernel
theorem dX7_takeStep_72 : decode cX7_takeStep 72 = .ok (.getfield 75, 3) := by decide +kernel
theorem dX7_takeStep_75 : decode cX7_takeStep 75 = .ok (.iload_n 2, 1) := by decide +kernel
theorem dX7_takeStep_76 : decode cX7_takeStep 76 = .ok (.iadd, 1) := by decide +kernel
theorem dX7_takeStep_77 : decode cX7_takeStep 77 = .ok (.ldc 78, 2) := by decide +kernel
theorem dX7_takeStep_79 : decode cX7_takeStep 79 = .ok (.irem, 1) := by decide +kernel
theorem dX7_takeStep_80 : decode cX7_takeStep 80 = .ok (.putfield 75, 3) := by decide +kernel
theorem dX7_takeStep_83 : decode cX7_takeStep 83 = .ok (.aload_n 0, 1) := by decide +kernel
theorem dX7_takeStep_84 : decode cX7_takeStep 84 = .ok (.invokevirtual 79, 3) := by decide +kernel
theorem dX7_takeStep_87 : decode cX7_takeStep 87 = .ok (.return_, 1) := by decide +kernel
theorem dX7_moveSwitch_0 : decode cX7_moveSwitch 0 = .ok (.aload_n 0, 1) := by decide +kernel
theorem dX7_moveSwitch_1 : decode cX7_moveSwitch 1 = .ok (.getfield 58, 3) := by decide +kernel
theorem dX7_moveSwitch_4 : decode cX7_moveSwitch 4 = .ok (.aload_n 0, 1) := by decide +kernel
theorem dX7_moveSwitch_5 : decode cX7_moveSwitch 5 = .ok (.getfield 18, 3) := by decide +kernel
theorem dX7_moveSwitch_8 : decode cX7_moveSwitch 8 = .ok (.iconst 5, 1) := by decide +kernel
theorem dX7_moveSwitch_9 : decode cX7_moveSwitch 9 = .ok (.iaload, 1) := by decide +kernel
theorem dX7_moveSwitch_10 : decode cX7_moveSwitch 10 = .ok (.if_icmp .gt 11, 3) := by decide +kernel
theorem dX7_moveSwitch_13 : decode cX7_moveSwitch 13 = .ok (.aload_n 0, 1) := by decide +kernel
theorem dX7_moveSwitch_14 : decode cX7_moveSwitch 14 = .ok (.iconst 1, 1) := by decide +kernel
theorem dX7_moveSwitch_15 : decode cX7_moveSwitch 15 = .ok (.putfield 82, 3) := by decide +kernel
theorem dX7_moveSwitch_18 : decode cX7_moveSwitch 18 = .ok (.goto 29, 3) := by decide +kernel
theorem dX7_moveSwitch_21 : decode cX7_moveSwitch 21 = .ok (.aload_n 0, 1) := by decide +kernel
theorem dX7_moveSwitch_22 : decode cX7_moveSwitch 22 = .ok (.getfield 58, 3) := by decide +kernel
theorem dX7_moveSwitch_25 : decode cX7_moveSwitch 25 = .ok (.aload_n 0, 1) := by decide +kernel
theorem dX7_moveSwitch_26 : decode cX7_moveSwitch 26 = .ok (.getfield 18, 3) := by decide +kernel
theorem dX7_moveSwitch_29 : decode cX7_moveSwitch 29 = .ok (.iconst 5, 1) := by decide +kernel
theorem dX7_moveSwitch_30 : decode cX7_moveSwitch 30 = .ok (.iaload, 1) := by decide +kernel
theorem dX7_moveSwitch_31 : decode cX7_moveSwitch 31 = .ok (.aload_n 0, 1) := by decide +kernel
theorem dX7_moveSwitch_32 : decode cX7_moveSwitch 32 = .ok (.getfield 18, 3) := by decide +kernel
theorem dX7_moveSwitch_35 : decode cX7_moveSwitch 35 = .ok (.bipush 6, 2) := by decide +kernel
theorem dX7_moveSwitch_37 : decode cX7_moveSwitch 37 = .ok (.iaload, 1) := by decide +kernel
theorem dX7_moveSwitch_38 : decode cX7_moveSwitch 38 = .ok (.iadd, 1) := by decide +kernel
theorem dX7_moveSwitch_39 : decode cX7_moveSwitch 39 = .ok (.if_icmp .le 8, 3) := by decide +kernel
theorem dX7_moveSwitch_42 : decode cX7_moveSwitch 42 = .ok (.aload_n 0, 1) := by decide +kernel
theorem dX7_moveSwitch_43 : decode cX7_moveSwitch 43 = .ok (.iconst 0, 1) := by decide +kernel
theorem dX7_moveSwitch_44 : decode cX7_moveSwitch 44 = .ok (.putfield 82, 3) := by decide +kernel
theorem dX7_moveSwitch_47 : decode cX7_moveSwitch 47 = .ok (.return_, 1) := by decide +kernel
theorem dX7_becomeHomed_0 : decode cX7_becomeHomed 0 = .ok (.aload_n 0, 1) := by decide +kernel
theorem dX7_becomeHomed_1 : decode cX7_becomeHomed 1 = .ok (.iconst 0, 1) := by decide +kernel
theorem dX7_becomeHomed_2 : decode cX7_becomeHomed 2 = .ok (.putfield 55, 3) := by decide +kernel
theorem dX7_becomeHomed_5 : decode cX7_becomeHomed 5 = .ok (.aload_n 0, 1) := by decide +kernel
theorem dX7_becomeHomed_6 : decode cX7_becomeHomed 6 = .ok (.iconst 1, 1) := by decide +kernel
theorem dX7_becomeHomed_7 : decode cX7_becomeHomed 7 = .ok (.putfield 86, 3) := by decide +kernel
theorem dX7_becomeHomed_10 : decode cX7_becomeHomed 10 = .ok (.aload_n 0, 1) := by decide +kernel
theorem dX7_becomeHomed_11 : decode cX7_becomeHomed 11 = .ok (.aload_n 0, 1) := by decide +kernel
theorem dX7_becomeHomed_12 : decode cX7_becomeHomed 12 = .ok (.getfield 58, 3) := by decide +kernel
theorem dX7_becomeHomed_15 : decode cX7_becomeHomed 15 = .ok (.ineg, 1) := by decide +kernel
theorem dX7_becomeHomed_16 : decode cX7_becomeHomed 16 = .ok (.putfield 89, 3) := by decide +kernel
theorem dX7_becomeHomed_19 : decode cX7_becomeHomed 19 = .ok (.return_, 1) := by decide +kernel
set_option maxRecDepth 20000 in
theorem ggX7_copyFrom_X2_copyFrom : GoodIn wsX7_copyFrom wsX2_copyFrom := goodIn_r _ [22, 23, 24, 3, 4, 5, 25, 26, 27, 49, 50, 51, 52] (by decide +kernel) (by decide +kernel)
set_option maxRecDepth 20000 in
theorem gX7_copyFrom_X2_copyFrom : GoodIn wsX7_copyFrom (wsV RX7 98 RX2 yX2_copyFrom wsX2_copyFrom) := goodIn_app (goodIn_of _ (by decide +kernel)) ggX7_copyFrom_X2_copyFrom
set_option maxRecDepth 20000 in
theorem ggX7_copyFrom_X3_copyFrom : GoodIn wsX7_copyFrom wsX3_copyFrom := goodIn_r _ [32, 33, 34, 3, 4, 5, 35, 53, 54] (by decide +kernel) (by decide +kernel)
set_option maxRecDepth 20000 in
theorem gX7_copyFrom_X3_copyFrom : GoodIn wsX7_copyFrom (wsV RX7 102 RX3 yX3_copyFrom wsX3_copyFrom) := goodIn_app (goodIn_of _ (by decide +kernel)) ggX7_copyFrom_X3_copyFrom
theorem dX7_copyFrom_0 : decode cX7_copyFrom 0 = .ok (.aload_n 1, 1) := by decide +kernel
theorem dX7_copyFrom_1 : decode cX7_copyFrom 1 = .ok (.getfield 18, 3) := by decide +kernel
theorem dX7_copyFrom_4 : decode cX7_copyFrom 4 = .ok (.iconst 0, 1) := by decide +kernel
theorem dX7_copyFrom_5 : decode cX7_copyFrom 5 = .ok (.aload_n 0, 1) := by decide +kernel
theorem dX7_copyFrom_6 : decode cX7_copyFrom 6 = .ok (.getfield 18, 3) := by decide +kernel
theorem dX7_copyFrom_9 : decode cX7_copyFrom 9 = .ok (.iconst 0, 1) := by decide +kernel
theorem dX7_copyFrom_10 : decode cX7_copyFrom 10 = .ok (.bipush 8, 2) := by decide +kernel
theorem dX7_copyFrom_12 : decode cX7_copyFrom 12 = .ok (.invokestatic 92, 3) := by decide +kernel
theorem dX7_copyFrom_15 : decode cX7_copyFrom 15 = .ok (.aload_n 0, 1) := by decide +kernel
theorem dX7_copyFrom_16 : decode cX7_copyFrom 16 = .ok (.getfield 26, 3) := by decide +kernel
theorem dX7_copyFrom_19 : decode cX7_copyFrom 19 = .ok (.aload_n 1, 1) := by decide +kernel
theorem dX7_copyFrom_20 : decode cX7_copyFrom 20 = .ok (.getfield 26, 3) := by decide +kernel
theorem dX7_copyFrom_23 : decode cX7_copyFrom 23 = .ok (.invokevirtual 98, 3) := by decide +kernel
theorem dX7_copyFrom_26 : decode cX7_copyFrom 26 = .ok (.aload_n 0, 1) := by decide +kernel
theorem dX7_copyFrom_27 : decode cX7_copyFrom 27 = .ok (.getfield 33, 3) := by decide +kernel
theorem dX7_copyFrom_30 : decode cX7_copyFrom 30 = .ok (.aload_n 1, 1) := by decide +kernel
theorem dX7_copyFrom_31 : decode cX7_copyFrom 31 = .ok (.getfield 33, 3) := by decide +kernel
theorem dX7_copyFrom_34 : decode cX7_copyFrom 34 = .ok (.invokevirtual 102, 3) := by decide +kernel
theorem dX7_copyFrom_37 : decode cX7_copyFrom 37 = .ok (.aload_n 0, 1) := by decide +kernel
theorem dX7_copyFrom_38 : decode cX7_copyFrom 38 = .ok (.aload_n 1, 1) := by decide +kernel
theorem dX7_copyFrom_39 : decode cX7_copyFrom 39 = .ok (.getfield 37, 3) := by decide +kernel
theorem dX7_copyFrom_42 : decode cX7_copyFrom 42 = .ok (.putfield 37, 3) := by decide +kernel
theorem dX7_copyFrom_45 : decode cX7_copyFrom 45 = .ok (.aload_n 0, 1) := by decide +kernel
theorem dX7_copyFrom_46 : decode cX7_copyFrom 46 = .ok (.aload_n 1, 1) := by decide +kernel
theorem dX7_copyFrom_47 : decode cX7_copyFrom 47 = .ok (.getfield 41, 3) := by decide +kernel
theorem dX7_copyFrom_50 : decode cX7_copyFrom 50 = .ok (.putfield 41, 3) := by decide +kernel
theorem dX7_copyFrom_53 : decode cX7_copyFrom 53 = .ok (.aload_n 0, 1) := by decide +kernel
theorem dX7_copyFrom_54 : decode cX7_copyFrom 54 = .ok (.aload_n 1, 1) := by decide +kernel
theorem dX7_copyFrom_55 : decode cX7_copyFrom 55 = .ok (.getfield 55, 3) := by decide +kernel
theorem dX7_copyFrom_58 : decode cX7_copyFrom 58 = .ok (.putfield 55, 3) := by decide +kernel
theorem dX7_copyFrom_61 : decode cX7_copyFrom 61 = .ok (.aload_n 0, 1) := by decide +kernel
theorem dX7_copyFrom_62 : decode cX7_copyFrom 62 = .ok (.aload_n 1, 1) := by decide +kernel
theorem dX7_copyFrom_63 : decode cX7_copyFrom 63 = .ok (.getfield 58, 3) := by decide +kernel
theorem dX7_copyFrom_66 : decode cX7_copyFrom 66 = .ok (.putfield 58, 3) := by decide +kernel
theorem dX7_copyFrom_69 : decode cX7_copyFrom 69 = .ok (.aload_n 0, 1) := by decide +kernel
theorem dX7_copyFrom_70 : decode cX7_copyFrom 70 = .ok (.aload_n 1, 1) := by decide +kernel
theorem dX7_copyFrom_71 : decode cX7_copyFrom 71 = .ok (.getfield 89, 3) := by decide +kernel
theorem dX7_copyFrom_74 : decode cX7_copyFrom 74 = .ok (.putfield 89, 3) := by decide +kernel
theorem dX7_copyFrom_77 : decode cX7_copyFrom 77 = .ok (.aload_n 0, 1) := by decide +kernel
theorem dX7_copyFrom_78 : decode cX7_copyFrom 78 = .ok (.aload_n 1, 1) := by decide +kernel
theorem dX7_copyFrom_79 : decode cX7_copyFrom 79 = .ok (.getfield 86, 3) := by decide +kernel
theorem dX7_copyFrom_82 : decode cX7_copyFrom 82 = .ok (.putfield 86, 3) := by decide +kernel
theorem dX7_copyFrom_85 : decode cX7_copyFrom 85 = .ok (.aload_n 0, 1) := by decide +kernel
theorem dX7_copyFrom_86 : decode cX7_copyFrom 86 = .ok (.aload_n 1, 1) := by decide +kernel
theorem dX7_copyFrom_87 : decode cX7_copyFrom 87 = .ok (.getfield 82, 3) := by decide +kernel
theorem dX7_copyFrom_90 : decode cX7_copyFrom 90 = .ok (.putfield 82, 3) := by decide +kernel
theorem dX7_copyFrom_93 : decode cX7_copyFrom 93 = .ok (.aload_n 0, 1) := by decide +kernel
theorem dX7_copyFrom_94 : decode cX7_copyFrom 94 = .ok (.aload_n 1, 1) := by decide +kernel
theorem dX7_copyFrom_95 : decode cX7_copyFrom 95 = .ok (.getfield 72, 3) := by decide +kernel
theorem dX7_copyFrom_98 : decode cX7_copyFrom 98 = .ok (.putfield 72, 3) := by decide +kernel
theorem dX7_copyFrom_101 : decode cX7_copyFrom 101 = .ok (.aload_n 0, 1) := by decide +kernel
theorem dX7_copyFrom_102 : decode cX7_copyFrom 102 = .ok (.aload_n 1, 1) := by decide +kernel
theorem dX7_copyFrom_103 : decode cX7_copyFrom 103 = .ok (.getfield 69, 3) := by decide +kernel
theorem dX7_copyFrom_106 : decode cX7_copyFrom 106 = .ok (.putfield 69, 3) := by decide +kernel
theorem dX7_copyFrom_109 : decode cX7_copyFrom 109 = .ok (.aload_n 0, 1) := by decide +kernel
theorem dX7_copyFrom_110 : decode cX7_copyFrom 110 = .ok (.aload_n 1, 1) := by decide +kernel
theorem dX7_copyFrom_111 : decode cX7_copyFrom 111 = .ok (.getfield 75, 3) := by decide +kernel
theorem dX7_copyFrom_114 : decode cX7_copyFrom 114 = .ok (.putfield 75, 3) := by decide +kernel
theorem dX7_copyFrom_117 : decode cX7_copyFrom 117 = .ok (.return_, 1) := by decide +kernel
set_option maxRecDepth 20000 in
theorem ggX8_init_X7_init : GoodIn wsX8_init wsX7_init := goodIn_r _ [26, 27, 2, 3, 28, 29, 30, 31, 32, 33, 34, 35, 36, 37, 38, 39, 40, 41, 42, 43, 44, 45, 46, 47, 48, 49, 50, 51, 52, 53, 54, 55, 84, 85, 86, 87, 88, 89, 90, 91, 92, 93, 94, 95, 96, 116, 117, 118, 119, 120, 121] (by decide +kernel) (by decide +kernel)
set_option maxRecDepth 20000 in
theorem gX8_init_X7_init_n9 : GoodIn wsX8_init (wsX7_init) := ggX8_init_X7_init
set_option maxRecDepth 20000 in
theorem ggX8_init_X1_init : GoodIn wsX8_init wsX1_init := goodIn_r _ [58, 59, 2, 3, 60, 61, 5, 6, 25, 26, 27, 28, 29, 30, 31, 32, 33, 34, 35, 36, 37, 38, 39, 40, 41, 42, 43, 44, 45, 46, 47, 48, 49, 50, 51, 52, 53, 54, 55, 103, 104, 84, 85, 86, 87, 88, 89, 90, 91, 92, 93, 94, 95, 96, 116, 117, 118, 119, 120, 121] (by decide +kernel) (by decide +kernel)
set_option maxRecDepth 20000 in
theorem gX8_init_X1_init : GoodIn wsX8_init (wsX1_init) := ggX8_init_X1_init
set_option maxRecDepth 20000 in
theorem ggX8_init_X0_init : GoodIn wsX8_init wsX0_init := goodIn_r _ [63, 64, 2, 3, 65, 66, 67, 68, 69, 70, 71, 48, 72, 73, 74, 75, 122, 123, 124, 125, 126, 105] (by decide +kernel) (by decide +kernel)
set_option maxRecDepth 20000 in
theorem gX8_init_X0_init_n28 : GoodIn wsX8_init (wsX0_init) := ggX8_init_X0_init
set_option maxRecDepth 20000 in
theorem ggX8_init_X6_init : GoodIn wsX8_init wsX6_init := goodIn_r _ [77, 78, 2, 3, 79, 80, 106, 107, 108, 109, 110, 111] (by decide +kernel) (by decide +kernel)
set_option maxRecDepth 20000 in
theorem gX8_init_X6_init_n35 : GoodIn wsX8_init (wsX6_init) := ggX8_init_X6_init
set_option maxRecDepth 20000 in
theorem ggX8_init_X5_init : GoodIn wsX8_init wsX5_init := goodIn_r _ [82, 83, 2, 3] (by decide +kernel) (by decide +kernel)
set_option maxRecDepth 20000 in
theorem gX8_init_X5_init_n42 : GoodIn wsX8_init (wsX5_init) := ggX8_init_X5_init
theorem dX8_init_0 : decode cX8_init 0 = .ok (.aload_n 0, 1) := by decide +kernel
theorem dX8_init_1 : decode cX8_init 1 = .ok (.invokespecial 1, 3) := by decide +kernel
theorem dX8_init_4 : decode cX8_init 4 = .ok (.aload_n 0, 1) := by decide +kernel
theorem dX8_init_5 : decode cX8_init 5 = .ok (.new 7, 3) := by decide +kernel
theorem dX8_init_8 : decode cX8_init 8 = .ok (.dup, 1) := by decide +kernel
theorem dX8_init_9 : decode cX8_init 9 = .ok (.invokespecial 9, 3) := by decide +kernel
theorem dX8_init_12 : decode cX8_init 12 = .ok (.putfield 10, 3) := by decide +kernel
theorem dX8_init_15 : decode cX8_init 15 = .ok (.aload_n 0, 1) := by decide +kernel
theorem dX8_init_16 : decode cX8_init 16 = .ok (.new 7, 3) := by decide +kernel
theorem dX8_init_19 : decode cX8_init 19 = .ok (.dup, 1) := by decide +kernel
theorem dX8_init_20 : decode cX8_init 20 = .ok (.invokespecial 9, 3) := by decide +kernel
theorem dX8_init_23 : decode cX8_init 23 = .ok (.putfield 16, 3) := by decide +kernel
theorem dX8_init_26 : decode cX8_init 26 = .ok (.aload_n 0, 1) := by decide +kernel
theorem dX8_init_27 : decode cX8_init 27 = .ok (.new 19, 3) := by decide +kernel
theorem dX8_init_30 : decode cX8_init 30 = .ok (.dup, 1) := by decide +kernel
theorem dX8_init_31 : decode cX8_init 31 = .ok (.invokespecial 21, 3) := by decide +kernel
theorem dX8_init_34 : decode cX8_init 34 = .ok (.putfield 22, 3) := by decide +kernel
theorem dX8_init_37 : decode cX8_init 37 = .ok (.aload_n 0, 1) := by decide +kernel
theorem dX8_init_38 : decode cX8_init 38 = .ok (.new 26, 3) := by decide +kernel
theorem dX8_init_41 : decode cX8_init 41 = .ok (.dup, 1) := by decide +kernel
theorem dX8_init_42 : decode cX8_init 42 = .ok (.invokespecial 28, 3) := by decide +kernel
theorem dX8_init_45 : decode cX8_init 45 = .ok (.putfield 29, 3) := by decide +kernel
theorem dX8_init_48 : decode cX8_init 48 = .ok (.aload_n 0, 1) := by decide +kernel
theorem dX8_init_49 : decode cX8_init 49 = .ok (.new 33, 3) := by decide +kernel
theorem dX8_init_52 : decode cX8_init 52 = .ok (.dup, 1) := by decide +kernel
theorem dX8_init_53 : decode cX8_init 53 = .ok (.invokespecial 35, 3) := by decide +kernel
theorem dX8_init_56 : decode cX8_init 56 = .ok (.putfield 36, 3) := by decide +kernel
theorem dX8_init_59 : decode cX8_init 59 = .ok (.aload_n 0, 1) := by decide +kernel
theorem dX8_init_60 : decode cX8_init 60 = .ok (.new 40, 3) := by decide +kernel
theorem dX8_init_63 : decode cX8_init 63 = .ok (.dup, 1) := by decide +kernel
theorem dX8_init_64 : decode cX8_init 64 = .ok (.invokespecial 42, 3) := by decide +kernel
theorem dX8_init_67 : decode cX8_init 67 = .ok (.putfield 43, 3) := by decide +kernel
theorem dX8_init_70 : decode cX8_init 70 = .ok (.return_, 1) := by decide +kernel
set_option maxRecDepth 20000 in
theorem ggX8_set_X8_begin : GoodIn wsX8_set wsX8_begin := goodIn_r _ [5, 6, 7, 8, 9, 10, 11, 12, 13, 14, 15, 16, 17, 18, 19, 20, 21, 22, 23, 24, 25, 26, 27, 28, 29, 30, 31, 32, 33, 34, 35, 36, 37, 38, 39, 40, 41, 42, 43, 44, 45, 46, 47, 76, 77, 78, 79, 80, 81, 82, 83, 84, 85, 86, 87, 88, 89, 90, 91, 92, 93, 94, 95, 96, 97, 98, 99, 100] (by decide +kernel) (by decide +kernel)
set_option maxRecDepth 20000 in
theorem gX8_set_X8_begin : GoodIn wsX8_set (wsV RX8 47 RX8 yX8_begin wsX8_begin) := goodIn_app (goodIn_of _ (by decide +kernel)) ggX8_set_X8_begin
set_option maxRecDepth 20000 in
theorem ggX8_set_X7_putSetting : GoodIn wsX8_set wsX7_putSetting := goodIn_r _ [51, 52, 13, 53, 4, 54, 82, 83, 84, 85, 86, 87, 88, 89, 90, 91, 92, 93, 94] (by decide +kernel) (by decide +kernel)
set_option maxRecDepth 20000 in
theorem gX8_set_X7_putSetting : GoodIn wsX8_set (wsV RX8 51 RX7 yX7_putSetting wsX7_putSetting) := goodIn_app (goodIn_of _ (by decide +kernel)) ggX8_set_X7_putSetting
set_option maxRecDepth 20000 in
theorem ggX8_set_X8_settle : GoodIn wsX8_set wsX8_settle := goodIn_r _ [58, 59, 7, 6, 60, 61, 4, 62, 63, 64, 65, 66, 67, 68, 69, 70, 71, 72, 73, 74, 75, 9, 10, 11, 12, 13, 14, 15, 16, 17, 18, 19, 20, 21, 22, 23, 24, 25, 26, 27, 28, 29, 30, 31, 32, 33, 34, 35, 36, 37, 38, 39, 40, 41, 42, 43, 44, 45, 46, 47, 8, 76, 77, 78, 79, 80, 81, 101, 102, 82, 83, 84, 85, 86, 87, 88, 89, 90, 91, 92, 93, 94, 95, 96, 97, 98, 99, 100] (by decide +kernel) (by decide +kernel)
set_option maxRecDepth 20000 in
theorem gX8_set_X8_settle : GoodIn wsX8_set (wsV RX8 55 RX8 yX8_settle wsX8_settle) := goodIn_app (goodIn_of _ (by decide +kernel)) ggX8_set_X8_settle
theorem dX8_set_0 : decode cX8_set 0 = .ok (.aload_n 0, 1) := by decide +kernel
theorem dX8_set_1 : decode cX8_set 1 = .ok (.aload_n 0, 1) := by decide +kernel
theorem dX8_set_2 : decode cX8_set 2 = .ok (.invokevirtual 47, 3) := by decide +kernel
theorem dX8_set_5 : decode cX8_set 5 = .ok (.iload_n 1, 1) := by decide +kernel
theorem dX8_set_6 : decode cX8_set 6 = .ok (.iload_n 2, 1) := by decide +kernel
theorem dX8_set_7 : decode cX8_set 7 = .ok (.invokevirtual 51, 3) := by decide +kernel
theorem dX8_set_10 : decode cX8_set 10 = .ok (.invokevirtual 55, 3) := by decide +kernel
theorem dX8_set_13 : decode cX8_set 13 = .ok (.ireturn, 1) := by decide +kernel
set_option maxRecDepth 20000 in
theorem ggX8_limits_X8_begin : GoodIn wsX8_limits wsX8_begin := goodIn_r _ [5, 6, 7, 8, 9, 10, 11, 12, 13, 14, 15, 16, 17, 18, 19, 20, 21, 22, 23, 24, 25, 26, 27, 28, 29, 30, 31, 32, 33, 34, 35, 36, 37, 38, 39, 40, 41, 42, 43, 44, 45, 46, 47, 76, 77, 78, 79, 80, 81, 82, 83, 84, 85, 86, 87, 88, 89, 90, 91, 92, 93, 94, 95, 96, 97, 98, 99, 100] (by decide +kernel) (by decide +kernel)
set_option maxRecDepth 20000 in
theorem gX8_limits_X8_begin : GoodIn wsX8_limits (wsV RX8 47 RX8 yX8_begin wsX8_begin) := goodIn_app (goodIn_of _ (by decide +kernel)) ggX8_limits_X8_begin
set_option maxRecDepth 20000 in
theorem ggX8_limits_X7_putLimits : GoodIn wsX8_limits wsX7_putLimits := goodIn_r _ [51, 52, 20, 21, 22, 53, 4, 54, 82, 83, 84, 85, 86, 87, 88, 89, 90, 91, 92, 93, 94] (by decide +kernel) (by decide +kernel)
set_option maxRecDepth 20000 in
theorem gX8_limits_X7_putLimits : GoodIn wsX8_limits (wsV RX8 59 RX7 yX7_putLimits wsX7_putLimits) := goodIn_app (goodIn_of _ (by decide +kernel)) ggX8_limits_X7_putLimits
set_option maxRecDepth 20000 in
theorem ggX8_limits_X8_settle : GoodIn wsX8_limits wsX8_settle := goodIn_r _ [58, 59, 7, 6, 60, 61, 4, 62, 63, 64, 65, 66, 67, 68, 69, 70, 71, 72, 73, 74, 75, 9, 10, 11, 12, 13, 14, 15, 16, 17, 18, 19, 20, 21, 22, 23, 24, 25, 26, 27, 28, 29, 30, 31, 32, 33, 34, 35, 36, 37, 38, 39, 40, 41, 42, 43, 44, 45, 46, 47, 8, 76, 77, 78, 79, 80, 81, 101, 102, 82, 83, 84, 85, 86, 87, 88, 89, 90, 91, 92, 93, 94, 95, 96, 97, 98, 99, 100] (by decide +kernel) (by decide +kernel)
set_option maxRecDepth 20000 in
theorem gX8_limits_X8_settle : GoodIn wsX8_limits (wsV RX8 55 RX8 yX8_settle wsX8_settle) := goodIn_app (goodIn_of _ (by decide +kernel)) ggX8_limits_X8_settle
theorem dX8_limits_0 : decode cX8_limits 0 = .ok (.aload_n 0, 1) := by decide +kernel
theorem dX8_limits_1 : decode cX8_limits 1 = .ok (.aload_n 0, 1) := by decide +kernel
theorem dX8_limits_2 : decode cX8_limits 2 = .ok (.invokevirtual 47, 3) := by decide +kernel
theorem dX8_limits_5 : decode cX8_limits 5 = .ok (.iload_n 1, 1) := by decide +kernel
theorem dX8_limits_6 : decode cX8_limits 6 = .ok (.iload_n 2, 1) := by decide +kernel
theorem dX8_limits_7 : decode cX8_limits 7 = .ok (.invokevirtual 59, 3) := by decide +kernel
theorem dX8_limits_10 : decode cX8_limits 10 = .ok (.invokevirtual 55, 3) := by decide +kernel
theorem dX8_limits_13 : decode cX8_limits 13 = .ok (.ireturn, 1) := by decide +kernel
set_option maxRecDepth 20000 in
theorem ggX8_load_X8_begin : GoodIn wsX8_load wsX8_begin := goodIn_r _ [5, 6, 7, 8, 9, 10, 11, 12, 13, 14, 15, 16, 17, 18, 19, 20, 21, 22, 23, 24, 25, 26, 27, 28, 29, 30, 31, 32, 33, 34, 35, 36, 37, 38, 39, 40, 41, 42, 43, 44, 45, 46, 47, 90, 91, 92, 93, 94, 95, 77, 78, 79, 80, 81, 82, 83, 84, 85, 86, 87, 88, 89, 96, 97, 98, 99, 100, 101] (by decide +kernel) (by decide +kernel)
set_option maxRecDepth 20000 in
theorem gX8_load_X8_begin : GoodIn wsX8_load (wsV RX8 47 RX8 yX8_begin wsX8_begin) := goodIn_app (goodIn_of _ (by decide +kernel)) ggX8_load_X8_begin
set_option maxRecDepth 20000 in
theorem ggX8_load_X2_add : GoodIn wsX8_load wsX2_add := goodIn_r _ [51, 52, 39, 53, 35, 37, 38, 54, 4, 55, 96, 97, 98, 99] (by decide +kernel) (by decide +kernel)
set_option maxRecDepth 20000 in
theorem gX8_load_X2_add : GoodIn wsX8_load (wsV RX8 66 RX2 yX2_add wsX2_add) := goodIn_app (goodIn_of _ (by decide +kernel)) ggX8_load_X2_add
set_option maxRecDepth 20000 in
theorem ggX8_load_X8_settle : GoodIn wsX8_load wsX8_settle := goodIn_r _ [59, 60, 7, 6, 61, 62, 4, 63, 64, 65, 66, 67, 68, 69, 70, 71, 72, 73, 74, 75, 76, 9, 10, 11, 12, 13, 14, 15, 16, 17, 18, 19, 20, 21, 22, 23, 24, 25, 26, 27, 28, 29, 30, 31, 32, 33, 34, 35, 36, 37, 38, 39, 40, 41, 42, 43, 44, 45, 46, 47, 8, 90, 91, 92, 93, 94, 95, 102, 103, 77, 78, 79, 80, 81, 82, 83, 84, 85, 86, 87, 88, 89, 96, 97, 98, 99, 100, 101] (by decide +kernel) (by decide +kernel)
set_option maxRecDepth 20000 in
theorem gX8_load_X8_settle : GoodIn wsX8_load (wsV RX8 55 RX8 yX8_settle wsX8_settle) := goodIn_app (goodIn_of _ (by decide +kernel)) ggX8_load_X8_settle
theorem dX8_load_0 : decode cX8_load 0 = .ok (.aload_n 0, 1) := by decide +kernel
theorem dX8_load_1 : decode cX8_load 1 = .ok (.aload_n 0, 1) := by decide +kernel
theorem dX8_load_2 : decode cX8_load 2 = .ok (.invokevirtual 47, 3) := by decide +kernel
theorem dX8_load_5 : decode cX8_load 5 = .ok (.getfield 62, 3) := by decide +kernel
theorem dX8_load_8 : decode cX8_load 8 = .ok (.iload_n 1, 1) := by decide +kernel
theorem dX8_load_9 : decode cX8_load 9 = .ok (.iload_n 2, 1) := by decide +kernel
theorem dX8_load_10 : decode cX8_load 10 = .ok (.iload_n 3, 1) := by decide +kernel
theorem dX8_load_11 : decode cX8_load 11 = .ok (.invokevirtual 66, 3) := by decide +kernel
theorem dX8_load_14 : decode cX8_load 14 = .ok (.invokevirtual 55, 3) := by decide +kernel
theorem dX8_load_17 : decode cX8_load 17 = .ok (.ireturn, 1) := by decide +kernel
set_option maxRecDepth 20000 in
theorem ggX8_dropLoad_X8_begin : GoodIn wsX8_dropLoad wsX8_begin := goodIn_r _ [5, 6, 7, 8, 9, 10, 11, 12, 13, 14, 15, 16, 17, 18, 19, 20, 21, 22, 23, 24, 25, 26, 27, 28, 29, 30, 31, 32, 33, 34, 35, 36, 37, 38, 39, 40, 41, 42, 43, 44, 45, 46, 47, 88, 89, 90, 91, 92, 93, 75, 76, 77, 78, 79, 80, 81, 82, 83, 84, 85, 86, 87, 94, 95, 96, 97, 98, 99] (by decide +kernel) (by decide +kernel)
set_option maxRecDepth 20000 in
theorem gX8_dropLoad_X8_begin : GoodIn wsX8_dropLoad (wsV RX8 47 RX8 yX8_begin wsX8_begin) := goodIn_app (goodIn_of _ (by decide +kernel)) ggX8_dropLoad_X8_begin
set_option maxRecDepth 20000 in
theorem ggX8_dropLoad_X2_drop : GoodIn wsX8_dropLoad wsX2_drop := goodIn_r _ [51, 52, 39, 53, 38, 35, 37, 94, 95, 96, 97] (by decide +kernel) (by decide +kernel)
set_option maxRecDepth 20000 in
theorem gX8_dropLoad_X2_drop : GoodIn wsX8_dropLoad (wsV RX8 72 RX2 yX2_drop wsX2_drop) := goodIn_app (goodIn_of _ (by decide +kernel)) ggX8_dropLoad_X2_drop
set_option maxRecDepth 20000 in
theorem ggX8_dropLoad_X8_settle : GoodIn wsX8_dropLoad wsX8_settle := goodIn_r _ [57, 58, 7, 6, 59, 60, 4, 61, 62, 63, 64, 65, 66, 67, 68, 69, 70, 71, 72, 73, 74, 9, 10, 11, 12, 13, 14, 15, 16, 17, 18, 19, 20, 21, 22, 23, 24, 25, 26, 27, 28, 29, 30, 31, 32, 33, 34, 35, 36, 37, 38, 39, 40, 41, 42, 43, 44, 45, 46, 47, 8, 88, 89, 90, 91, 92, 93, 100, 101, 75, 76, 77, 78, 79, 80, 81, 82, 83, 84, 85, 86, 87, 94, 95, 96, 97, 98, 99] (by decide +kernel) (by decide +kernel)
set_option maxRecDepth 20000 in
theorem gX8_dropLoad_X8_settle : GoodIn wsX8_dropLoad (wsV RX8 55 RX8 yX8_settle wsX8_settle) := goodIn_app (goodIn_of _ (by decide +kernel)) ggX8_dropLoad_X8_settle
theorem dX8_dropLoad_0 : decode cX8_dropLoad 0 = .ok (.aload_n 0, 1) := by decide +kernel
theorem dX8_dropLoad_1 : decode cX8_dropLoad 1 = .ok (.aload_n 0, 1) := by decide +kernel
theorem dX8_dropLoad_2 : decode cX8_dropLoad 2 = .ok (.invokevirtual 47, 3) := by decide +kernel
theorem dX8_dropLoad_5 : decode cX8_dropLoad 5 = .ok (.getfield 62, 3) := by decide +kernel
theorem dX8_dropLoad_8 : decode cX8_dropLoad 8 = .ok (.iload_n 1, 1) := by decide +kernel
theorem dX8_dropLoad_9 : decode cX8_dropLoad 9 = .ok (.invokevirtual 72, 3) := by decide +kernel
theorem dX8_dropLoad_12 : decode cX8_dropLoad 12 = .ok (.invokevirtual 55, 3) := by decide +kernel
theorem dX8_dropLoad_15 : decode cX8_dropLoad 15 = .ok (.ireturn, 1) := by decide +kernel
set_option maxRecDepth 20000 in
theorem ggX8_loadOf_X2_part : GoodIn wsX8_loadOf wsX2_part := goodIn_r _ [6, 7, 8, 9, 10, 11, 12, 13, 14, 15, 35, 36, 37, 38] (by decide +kernel) (by decide +kernel)
set_option maxRecDepth 20000 in
theorem gX8_loadOf_X2_part : GoodIn wsX8_loadOf (wsV RX8 75 RX2 yX2_part wsX2_part) := goodIn_app (goodIn_of _ (by decide +kernel)) ggX8_loadOf_X2_part
theorem dX8_loadOf_0 : decode cX8_loadOf 0 = .ok (.aload_n 0, 1) := by decide +kernel
theorem dX8_loadOf_1 : decode cX8_loadOf 1 = .ok (.getfield 10, 3) := by decide +kernel
theorem dX8_loadOf_4 : decode cX8_loadOf 4 = .ok (.getfield 62, 3) := by decide +kernel
theorem dX8_loadOf_7 : decode cX8_loadOf 7 = .ok (.iload_n 1, 1) := by decide +kernel
theorem dX8_loadOf_8 : decode cX8_loadOf 8 = .ok (.iload_n 2, 1) := by decide +kernel
theorem dX8_loadOf_9 : decode cX8_loadOf 9 = .ok (.invokevirtual 75, 3) := by decide +kernel
theorem dX8_loadOf_12 : decode cX8_loadOf 12 = .ok (.ireturn, 1) := by decide +kernel
set_option maxRecDepth 20000 in
theorem ggX8_loadAt_X8_within : GoodIn wsX8_loadAt wsX8_within := goodIn_r _ [6] (by decide +kernel) (by decide +kernel)
set_option maxRecDepth 20000 in
theorem gX8_loadAt_X8_within : GoodIn wsX8_loadAt (va_wsS RX8 78 yX8_within wsX8_within) := goodIn_app (goodIn_of _ (by decide +kernel)) ggX8_loadAt_X8_within
set_option maxRecDepth 20000 in
theorem ggX8_loadAt_X2_weightAt : GoodIn wsX8_loadAt wsX2_weightAt := goodIn_r _ [11, 12, 13, 14, 15, 35, 36, 37, 38] (by decide +kernel) (by decide +kernel)
set_option maxRecDepth 20000 in
theorem gX8_loadAt_X2_weightAt : GoodIn wsX8_loadAt (wsV RX8 82 RX2 yX2_weightAt wsX2_weightAt) := goodIn_app (goodIn_of _ (by decide +kernel)) ggX8_loadAt_X2_weightAt
theorem dX8_loadAt_0 : decode cX8_loadAt 0 = .ok (.iload_n 1, 1) := by decide +kernel
theorem dX8_loadAt_1 : decode cX8_loadAt 1 = .ok (.sipush (-3000), 3) := by decide +kernel
theorem dX8_loadAt_4 : decode cX8_loadAt 4 = .ok (.sipush 3000, 3) := by decide +kernel
theorem dX8_loadAt_7 : decode cX8_loadAt 7 = .ok (.invokestatic 78, 3) := by decide +kernel
theorem dX8_loadAt_10 : decode cX8_loadAt 10 = .ok (.ifCond .eq 17, 3) := by decide +kernel
theorem dX8_loadAt_13 : decode cX8_loadAt 13 = .ok (.aload_n 0, 1) := by decide +kernel
theorem dX8_loadAt_14 : decode cX8_loadAt 14 = .ok (.getfield 10, 3) := by decide +kernel
theorem dX8_loadAt_17 : decode cX8_loadAt 17 = .ok (.getfield 62, 3) := by decide +kernel
theorem dX8_loadAt_20 : decode cX8_loadAt 20 = .ok (.iload_n 1, 1) := by decide +kernel
