set_option maxRecDepth 20000 in
theorem ggX9_set_X9_mostOf : GoodIn wsX9_set wsX9_mostOf := goodIn_r _ [12] (by decide +kernel) (by decide +kernel)
set_option maxRecDepth 20000 in
theorem gX9_set_X9_mostOf : GoodIn wsX9_set (va_wsS RX9 50 yX9_mostOf wsX9_mostOf) := goodIn_app (goodIn_of _ (by decide +kernel)) ggX9_set_X9_mostOf
set_option maxRecDepth 20000 in
theorem ggX9_set_X9_changes : GoodIn wsX9_set wsX9_changes := goodIn_r _ [16, 17, 18, 19, 2, 20, 21, 22, 23, 24, 25, 26, 27, 28, 29, 30, 31, 32, 33, 34, 35, 36, 37, 38] (by decide +kernel) (by decide +kernel)
set_option maxRecDepth 20000 in
theorem gX9_set_X9_changes : GoodIn wsX9_set (wsV RX9 54 RX9 yX9_changes wsX9_changes) := goodIn_app (goodIn_of _ (by decide +kernel)) ggX9_set_X9_changes
theorem dX9_set_0 : decode cX9_set 0 = .ok (.iload_n 1, 1) := by decide +kernel
theorem dX9_set_1 : decode cX9_set 1 = .ok (.iconst 0, 1) := by decide +kernel
theorem dX9_set_2 : decode cX9_set 2 = .ok (.bipush 7, 2) := by decide +kernel
theorem dX9_set_4 : decode cX9_set 4 = .ok (.invokestatic 42, 3) := by decide +kernel
theorem dX9_set_7 : decode cX9_set 7 = .ok (.ifCond .eq 18, 3) := by decide +kernel
theorem dX9_set_10 : decode cX9_set 10 = .ok (.iload_n 2, 1) := by decide +kernel
theorem dX9_set_11 : decode cX9_set 11 = .ok (.iload_n 1, 1) := by decide +kernel
theorem dX9_set_12 : decode cX9_set 12 = .ok (.invokestatic 46, 3) := by decide +kernel
theorem dX9_set_15 : decode cX9_set 15 = .ok (.iload_n 1, 1) := by decide +kernel
theorem dX9_set_16 : decode cX9_set 16 = .ok (.invokestatic 50, 3) := by decide +kernel
theorem dX9_set_19 : decode cX9_set 19 = .ok (.invokestatic 42, 3) := by decide +kernel
theorem dX9_set_22 : decode cX9_set 22 = .ok (.ifCond .ne 6, 3) := by decide +kernel
theorem dX9_set_25 : decode cX9_set 25 = .ok (.ldc 53, 2) := by decide +kernel
theorem dX9_set_27 : decode cX9_set 27 = .ok (.ireturn, 1) := by decide +kernel
theorem dX9_set_28 : decode cX9_set 28 = .ok (.aload_n 0, 1) := by decide +kernel
theorem dX9_set_29 : decode cX9_set 29 = .ok (.invokevirtual 54, 3) := by decide +kernel
theorem dX9_set_32 : decode cX9_set 32 = .ok (.aload_n 0, 1) := by decide +kernel
theorem dX9_set_33 : decode cX9_set 33 = .ok (.getfield 7, 3) := by decide +kernel
theorem dX9_set_36 : decode cX9_set 36 = .ok (.iload_n 1, 1) := by decide +kernel
theorem dX9_set_37 : decode cX9_set 37 = .ok (.iaload, 1) := by decide +kernel
theorem dX9_set_38 : decode cX9_set 38 = .ok (.istore_n 3, 1) := by decide +kernel
theorem dX9_set_39 : decode cX9_set 39 = .ok (.aload_n 0, 1) := by decide +kernel
theorem dX9_set_40 : decode cX9_set 40 = .ok (.getfield 7, 3) := by decide +kernel
theorem dX9_set_43 : decode cX9_set 43 = .ok (.iload_n 1, 1) := by decide +kernel
theorem dX9_set_44 : decode cX9_set 44 = .ok (.iload_n 2, 1) := by decide +kernel
theorem dX9_set_45 : decode cX9_set 45 = .ok (.iastore, 1) := by decide +kernel
theorem dX9_set_46 : decode cX9_set 46 = .ok (.iload_n 3, 1) := by decide +kernel
theorem dX9_set_47 : decode cX9_set 47 = .ok (.ireturn, 1) := by decide +kernel
set_option maxRecDepth 20000 in
theorem ggX9_limits_X9_in : GoodIn wsX9_limits wsX9_in := goodIn_r _ [6] (by decide +kernel) (by decide +kernel)
set_option maxRecDepth 20000 in
theorem gX9_limits_X9_in : GoodIn wsX9_limits (va_wsS RX9 42 yX9_in wsX9_in) := goodIn_app (goodIn_of _ (by decide +kernel)) ggX9_limits_X9_in
set_option maxRecDepth 20000 in
theorem ggX9_limits_X9_changes : GoodIn wsX9_limits wsX9_changes := goodIn_r _ [10, 11, 12, 13, 2, 14, 15, 16, 17, 18, 19, 20, 21, 22, 23, 24, 25, 26, 27, 28, 29, 30, 31, 32] (by decide +kernel) (by decide +kernel)
set_option maxRecDepth 20000 in
theorem gX9_limits_X9_changes : GoodIn wsX9_limits (wsV RX9 54 RX9 yX9_changes wsX9_changes) := goodIn_app (goodIn_of _ (by decide +kernel)) ggX9_limits_X9_changes
theorem dX9_limits_0 : decode cX9_limits 0 = .ok (.iload_n 1, 1) := by decide +kernel
theorem dX9_limits_1 : decode cX9_limits 1 = .ok (.sipush (-2000), 3) := by decide +kernel
theorem dX9_limits_4 : decode cX9_limits 4 = .ok (.sipush 2000, 3) := by decide +kernel
theorem dX9_limits_7 : decode cX9_limits 7 = .ok (.invokestatic 42, 3) := by decide +kernel
theorem dX9_limits_10 : decode cX9_limits 10 = .ok (.ifCond .eq 14, 3) := by decide +kernel
theorem dX9_limits_13 : decode cX9_limits 13 = .ok (.iload_n 2, 1) := by decide +kernel
theorem dX9_limits_14 : decode cX9_limits 14 = .ok (.iload_n 1, 1) := by decide +kernel
theorem dX9_limits_15 : decode cX9_limits 15 = .ok (.sipush 2000, 3) := by decide +kernel
theorem dX9_limits_18 : decode cX9_limits 18 = .ok (.invokestatic 42, 3) := by decide +kernel
theorem dX9_limits_21 : decode cX9_limits 21 = .ok (.ifCond .ne 6, 3) := by decide +kernel
theorem dX9_limits_24 : decode cX9_limits 24 = .ok (.ldc 53, 2) := by decide +kernel
theorem dX9_limits_26 : decode cX9_limits 26 = .ok (.ireturn, 1) := by decide +kernel
theorem dX9_limits_27 : decode cX9_limits 27 = .ok (.aload_n 0, 1) := by decide +kernel
theorem dX9_limits_28 : decode cX9_limits 28 = .ok (.invokevirtual 54, 3) := by decide +kernel
theorem dX9_limits_31 : decode cX9_limits 31 = .ok (.aload_n 0, 1) := by decide +kernel
theorem dX9_limits_32 : decode cX9_limits 32 = .ok (.getfield 7, 3) := by decide +kernel
theorem dX9_limits_35 : decode cX9_limits 35 = .ok (.bipush 8, 2) := by decide +kernel
theorem dX9_limits_37 : decode cX9_limits 37 = .ok (.iload_n 1, 1) := by decide +kernel
theorem dX9_limits_38 : decode cX9_limits 38 = .ok (.iastore, 1) := by decide +kernel
theorem dX9_limits_39 : decode cX9_limits 39 = .ok (.aload_n 0, 1) := by decide +kernel
theorem dX9_limits_40 : decode cX9_limits 40 = .ok (.getfield 7, 3) := by decide +kernel
theorem dX9_limits_43 : decode cX9_limits 43 = .ok (.bipush 9, 2) := by decide +kernel
theorem dX9_limits_45 : decode cX9_limits 45 = .ok (.iload_n 2, 1) := by decide +kernel
theorem dX9_limits_46 : decode cX9_limits 46 = .ok (.iastore, 1) := by decide +kernel
theorem dX9_limits_47 : decode cX9_limits 47 = .ok (.aload_n 0, 1) := by decide +kernel
theorem dX9_limits_48 : decode cX9_limits 48 = .ok (.getfield 7, 3) := by decide +kernel
theorem dX9_limits_51 : decode cX9_limits 51 = .ok (.bipush 10, 2) := by decide +kernel
theorem dX9_limits_53 : decode cX9_limits 53 = .ok (.iaload, 1) := by decide +kernel
theorem dX9_limits_54 : decode cX9_limits 54 = .ok (.iload_n 1, 1) := by decide +kernel
theorem dX9_limits_55 : decode cX9_limits 55 = .ok (.iload_n 2, 1) := by decide +kernel
theorem dX9_limits_56 : decode cX9_limits 56 = .ok (.invokestatic 42, 3) := by decide +kernel
theorem dX9_limits_59 : decode cX9_limits 59 = .ok (.ifCond .eq 7, 3) := by decide +kernel
theorem dX9_limits_62 : decode cX9_limits 62 = .ok (.iconst 1, 1) := by decide +kernel
theorem dX9_limits_63 : decode cX9_limits 63 = .ok (.goto 4, 3) := by decide +kernel
theorem dX9_limits_66 : decode cX9_limits 66 = .ok (.iconst 0, 1) := by decide +kernel
theorem dX9_limits_67 : decode cX9_limits 67 = .ok (.ireturn, 1) := by decide +kernel
set_option maxRecDepth 20000 in
theorem ggX9_load_X9_in : GoodIn wsX9_load wsX9_in := goodIn_r _ [7] (by decide +kernel) (by decide +kernel)
set_option maxRecDepth 20000 in
theorem gX9_load_X9_in : GoodIn wsX9_load (va_wsS RX9 42 yX9_in wsX9_in) := goodIn_app (goodIn_of _ (by decide +kernel)) ggX9_load_X9_in
set_option maxRecDepth 20000 in
theorem ggX9_load_X9_changes : GoodIn wsX9_load wsX9_changes := goodIn_r _ [11, 12, 13, 14, 2, 15, 16, 17, 18, 19, 20, 21, 22, 23, 24, 25, 26, 27, 28, 29, 30, 31, 32, 33] (by decide +kernel) (by decide +kernel)
set_option maxRecDepth 20000 in
theorem gX9_load_X9_changes : GoodIn wsX9_load (wsV RX9 54 RX9 yX9_changes wsX9_changes) := goodIn_app (goodIn_of _ (by decide +kernel)) ggX9_load_X9_changes
theorem dX9_load_0 : decode cX9_load 0 = .ok (.iload_n 1, 1) := by decide +kernel
theorem dX9_load_1 : decode cX9_load 1 = .ok (.sipush (-3000), 3) := by decide +kernel
theorem dX9_load_4 : decode cX9_load 4 = .ok (.sipush 3000, 3) := by decide +kernel
theorem dX9_load_7 : decode cX9_load 7 = .ok (.invokestatic 42, 3) := by decide +kernel
theorem dX9_load_10 : decode cX9_load 10 = .ok (.ifCond .eq 25, 3) := by decide +kernel
theorem dX9_load_13 : decode cX9_load 13 = .ok (.iload_n 2, 1) := by decide +kernel
theorem dX9_load_14 : decode cX9_load 14 = .ok (.iload_n 1, 1) := by decide +kernel
theorem dX9_load_15 : decode cX9_load 15 = .ok (.sipush 3000, 3) := by decide +kernel
theorem dX9_load_18 : decode cX9_load 18 = .ok (.invokestatic 42, 3) := by decide +kernel
theorem dX9_load_21 : decode cX9_load 21 = .ok (.ifCond .eq 14, 3) := by decide +kernel
theorem dX9_load_24 : decode cX9_load 24 = .ok (.iload_n 3, 1) := by decide +kernel
theorem dX9_load_25 : decode cX9_load 25 = .ok (.iconst 1, 1) := by decide +kernel
theorem dX9_load_26 : decode cX9_load 26 = .ok (.sipush 300, 3) := by decide +kernel
theorem dX9_load_29 : decode cX9_load 29 = .ok (.invokestatic 42, 3) := by decide +kernel
theorem dX9_load_32 : decode cX9_load 32 = .ok (.ifCond .ne 6, 3) := by decide +kernel
theorem dX9_load_35 : decode cX9_load 35 = .ok (.ldc 53, 2) := by decide +kernel
theorem dX9_load_37 : decode cX9_load 37 = .ok (.ireturn, 1) := by decide +kernel
theorem dX9_load_38 : decode cX9_load 38 = .ok (.aload_n 0, 1) := by decide +kernel
theorem dX9_load_39 : decode cX9_load 39 = .ok (.getfield 7, 3) := by decide +kernel
theorem dX9_load_42 : decode cX9_load 42 = .ok (.bipush 18, 2) := by decide +kernel
theorem dX9_load_44 : decode cX9_load 44 = .ok (.iaload, 1) := by decide +kernel
theorem dX9_load_45 : decode cX9_load 45 = .ok (.istore 4, 2) := by decide +kernel
theorem dX9_load_47 : decode cX9_load 47 = .ok (.iload 4, 2) := by decide +kernel
theorem dX9_load_49 : decode cX9_load 49 = .ok (.bipush 6, 2) := by decide +kernel
theorem dX9_load_51 : decode cX9_load 51 = .ok (.if_icmp .ne 6, 3) := by decide +kernel
theorem dX9_load_54 : decode cX9_load 54 = .ok (.ldc 57, 2) := by decide +kernel
theorem dX9_load_56 : decode cX9_load 56 = .ok (.ireturn, 1) := by decide +kernel
theorem dX9_load_57 : decode cX9_load 57 = .ok (.aload_n 0, 1) := by decide +kernel
theorem dX9_load_58 : decode cX9_load 58 = .ok (.invokevirtual 54, 3) := by decide +kernel
theorem dX9_load_61 : decode cX9_load 61 = .ok (.aload_n 0, 1) := by decide +kernel
theorem dX9_load_62 : decode cX9_load 62 = .ok (.getfield 7, 3) := by decide +kernel
theorem dX9_load_65 : decode cX9_load 65 = .ok (.bipush 19, 2) := by decide +kernel
theorem dX9_load_67 : decode cX9_load 67 = .ok (.iconst 3, 1) := by decide +kernel
theorem dX9_load_68 : decode cX9_load 68 = .ok (.iload 4, 2) := by decide +kernel
theorem dX9_load_70 : decode cX9_load 70 = .ok (.imul, 1) := by decide +kernel
theorem dX9_load_71 : decode cX9_load 71 = .ok (.iadd, 1) := by decide +kernel
theorem dX9_load_72 : decode cX9_load 72 = .ok (.iload_n 1, 1) := by decide +kernel
theorem dX9_load_73 : decode cX9_load 73 = .ok (.iastore, 1) := by decide +kernel
theorem dX9_load_74 : decode cX9_load 74 = .ok (.aload_n 0, 1) := by decide +kernel
theorem dX9_load_75 : decode cX9_load 75 = .ok (.getfield 7, 3) := by decide +kernel
theorem dX9_load_78 : decode cX9_load 78 = .ok (.bipush 19, 2) := by decide +kernel
theorem dX9_load_80 : decode cX9_load 80 = .ok (.iconst 3, 1) := by decide +kernel
theorem dX9_load_81 : decode cX9_load 81 = .ok (.iload 4, 2) := by decide +kernel
theorem dX9_load_83 : decode cX9_load 83 = .ok (.imul, 1) := by decide +kernel
theorem dX9_load_84 : decode cX9_load 84 = .ok (.iadd, 1) := by decide +kernel
theorem dX9_load_85 : decode cX9_load 85 = .ok (.iconst 1, 1) := by decide +kernel
theorem dX9_load_86 : decode cX9_load 86 = .ok (.iadd, 1) := by decide +kernel
theorem dX9_load_87 : decode cX9_load 87 = .ok (.iload_n 2, 1) := by decide +kernel
theorem dX9_load_88 : decode cX9_load 88 = .ok (.iastore, 1) := by decide +kernel
theorem dX9_load_89 : decode cX9_load 89 = .ok (.aload_n 0, 1) := by decide +kernel
theorem dX9_load_90 : decode cX9_load 90 = .ok (.getfield 7, 3) := by decide +kernel
theorem dX9_load_93 : decode cX9_load 93 = .ok (.bipush 19, 2) := by decide +kernel
theorem dX9_load_95 : decode cX9_load 95 = .ok (.iconst 3, 1) := by decide +kernel
theorem dX9_load_96 : decode cX9_load 96 = .ok (.iload 4, 2) := by decide +kernel
theorem dX9_load_98 : decode cX9_load 98 = .ok (.imul, 1) := by decide +kernel
theorem dX9_load_99 : decode cX9_load 99 = .ok (.iadd, 1) := by decide +kernel
theorem dX9_load_100 : decode cX9_load 100 = .ok (.iconst 2, 1) := by decide +kernel
theorem dX9_load_101 : decode cX9_load 101 = .ok (.iadd, 1) := by decide +kernel
theorem dX9_load_102 : decode cX9_load 102 = .ok (.iload_n 3, 1) := by decide +kernel
theorem dX9_load_103 : decode cX9_load 103 = .ok (.iastore, 1) := by decide +kernel
theorem dX9_load_104 : decode cX9_load 104 = .ok (.aload_n 0, 1) := by decide +kernel
theorem dX9_load_105 : decode cX9_load 105 = .ok (.getfield 7, 3) := by decide +kernel
theorem dX9_load_108 : decode cX9_load 108 = .ok (.bipush 18, 2) := by decide +kernel
theorem dX9_load_110 : decode cX9_load 110 = .ok (.dup2, 1) := by decide +kernel
theorem dX9_load_111 : decode cX9_load 111 = .ok (.iaload, 1) := by decide +kernel
theorem dX9_load_112 : decode cX9_load 112 = .ok (.iconst 1, 1) := by decide +kernel
theorem dX9_load_113 : decode cX9_load 113 = .ok (.iadd, 1) := by decide +kernel
theorem dX9_load_114 : decode cX9_load 114 = .ok (.iastore, 1) := by decide +kernel
theorem dX9_load_115 : decode cX9_load 115 = .ok (.iload 4, 2) := by decide +kernel
theorem dX9_load_117 : decode cX9_load 117 = .ok (.ireturn, 1) := by decide +kernel
set_option maxRecDepth 20000 in
theorem ggX9_dropLoad_X9_changes : GoodIn wsX9_dropLoad wsX9_changes := goodIn_r _ [8, 9, 10, 11, 2, 12, 13, 14, 15, 16, 17, 18, 19, 20, 21, 22, 23, 24, 25, 26, 27, 28, 29, 30] (by decide +kernel) (by decide +kernel)
set_option maxRecDepth 20000 in
theorem gX9_dropLoad_X9_changes : GoodIn wsX9_dropLoad (wsV RX9 54 RX9 yX9_changes wsX9_changes) := goodIn_app (goodIn_of _ (by decide +kernel)) ggX9_dropLoad_X9_changes
theorem dX9_dropLoad_0 : decode cX9_dropLoad 0 = .ok (.iload_n 1, 1) := by decide +kernel
theorem dX9_dropLoad_1 : decode cX9_dropLoad 1 = .ok (.ifCond .ge 6, 3) := by decide +kernel
theorem dX9_dropLoad_4 : decode cX9_dropLoad 4 = .ok (.ldc 53, 2) := by decide +kernel
theorem dX9_dropLoad_6 : decode cX9_dropLoad 6 = .ok (.ireturn, 1) := by decide +kernel
theorem dX9_dropLoad_7 : decode cX9_dropLoad 7 = .ok (.iload_n 1, 1) := by decide +kernel
theorem dX9_dropLoad_8 : decode cX9_dropLoad 8 = .ok (.aload_n 0, 1) := by decide +kernel
theorem dX9_dropLoad_9 : decode cX9_dropLoad 9 = .ok (.getfield 7, 3) := by decide +kernel
theorem dX9_dropLoad_12 : decode cX9_dropLoad 12 = .ok (.bipush 18, 2) := by decide +kernel
theorem dX9_dropLoad_14 : decode cX9_dropLoad 14 = .ok (.iaload, 1) := by decide +kernel
theorem dX9_dropLoad_15 : decode cX9_dropLoad 15 = .ok (.if_icmp .lt 6, 3) := by decide +kernel
theorem dX9_dropLoad_18 : decode cX9_dropLoad 18 = .ok (.ldc 58, 2) := by decide +kernel
theorem dX9_dropLoad_20 : decode cX9_dropLoad 20 = .ok (.ireturn, 1) := by decide +kernel
theorem dX9_dropLoad_21 : decode cX9_dropLoad 21 = .ok (.aload_n 0, 1) := by decide +kernel
theorem dX9_dropLoad_22 : decode cX9_dropLoad 22 = .ok (.invokevirtual 54, 3) := by decide +kernel
theorem dX9_dropLoad_25 : decode cX9_dropLoad 25 = .ok (.aload_n 0, 1) := by decide +kernel
theorem dX9_dropLoad_26 : decode cX9_dropLoad 26 = .ok (.getfield 7, 3) := by decide +kernel
theorem dX9_dropLoad_29 : decode cX9_dropLoad 29 = .ok (.bipush 19, 2) := by decide +kernel
theorem dX9_dropLoad_31 : decode cX9_dropLoad 31 = .ok (.iconst 3, 1) := by decide +kernel
theorem dX9_dropLoad_32 : decode cX9_dropLoad 32 = .ok (.iload_n 1, 1) := by decide +kernel
theorem dX9_dropLoad_33 : decode cX9_dropLoad 33 = .ok (.imul, 1) := by decide +kernel
theorem dX9_dropLoad_34 : decode cX9_dropLoad 34 = .ok (.iadd, 1) := by decide +kernel
theorem dX9_dropLoad_35 : decode cX9_dropLoad 35 = .ok (.iconst 2, 1) := by decide +kernel
theorem dX9_dropLoad_36 : decode cX9_dropLoad 36 = .ok (.iadd, 1) := by decide +kernel
theorem dX9_dropLoad_37 : decode cX9_dropLoad 37 = .ok (.iaload, 1) := by decide +kernel
theorem dX9_dropLoad_38 : decode cX9_dropLoad 38 = .ok (.istore_n 2, 1) := by decide +kernel
theorem dX9_dropLoad_39 : decode cX9_dropLoad 39 = .ok (.aload_n 0, 1) := by decide +kernel
theorem dX9_dropLoad_40 : decode cX9_dropLoad 40 = .ok (.getfield 7, 3) := by decide +kernel
theorem dX9_dropLoad_43 : decode cX9_dropLoad 43 = .ok (.bipush 18, 2) := by decide +kernel
theorem dX9_dropLoad_45 : decode cX9_dropLoad 45 = .ok (.dup2, 1) := by decide +kernel
theorem dX9_dropLoad_46 : decode cX9_dropLoad 46 = .ok (.iaload, 1) := by decide +kernel
theorem dX9_dropLoad_47 : decode cX9_dropLoad 47 = .ok (.iconst 1, 1) := by decide +kernel
theorem dX9_dropLoad_48 : decode cX9_dropLoad 48 = .ok (.isub, 1) := by decide +kernel
theorem dX9_dropLoad_49 : decode cX9_dropLoad 49 = .ok (.iastore, 1) := by decide +kernel
theorem dX9_dropLoad_50 : decode cX9_dropLoad 50 = .ok (.bipush 19, 2) := by decide +kernel
theorem dX9_dropLoad_52 : decode cX9_dropLoad 52 = .ok (.iconst 3, 1) := by decide +kernel
theorem dX9_dropLoad_53 : decode cX9_dropLoad 53 = .ok (.iload_n 1, 1) := by decide +kernel
theorem dX9_dropLoad_54 : decode cX9_dropLoad 54 = .ok (.imul, 1) := by decide +kernel
theorem dX9_dropLoad_55 : decode cX9_dropLoad 55 = .ok (.iadd, 1) := by decide +kernel
theorem dX9_dropLoad_56 : decode cX9_dropLoad 56 = .ok (.istore_n 3, 1) := by decide +kernel
theorem dX9_dropLoad_57 : decode cX9_dropLoad 57 = .ok (.iload_n 3, 1) := by decide +kernel
theorem dX9_dropLoad_58 : decode cX9_dropLoad 58 = .ok (.bipush 19, 2) := by decide +kernel
theorem dX9_dropLoad_60 : decode cX9_dropLoad 60 = .ok (.iconst 3, 1) := by decide +kernel
theorem dX9_dropLoad_61 : decode cX9_dropLoad 61 = .ok (.aload_n 0, 1) := by decide +kernel
theorem dX9_dropLoad_62 : decode cX9_dropLoad 62 = .ok (.getfield 7, 3) := by decide +kernel
theorem dX9_dropLoad_65 : decode cX9_dropLoad 65 = .ok (.bipush 18, 2) := by decide +kernel
theorem dX9_dropLoad_67 : decode cX9_dropLoad 67 = .ok (.iaload, 1) := by decide +kernel
theorem dX9_dropLoad_68 : decode cX9_dropLoad 68 = .ok (.imul, 1) := by decide +kernel
theorem dX9_dropLoad_69 : decode cX9_dropLoad 69 = .ok (.iadd, 1) := by decide +kernel
theorem dX9_dropLoad_70 : decode cX9_dropLoad 70 = .ok (.if_icmp .ge 23, 3) := by decide +kernel
theorem dX9_dropLoad_73 : decode cX9_dropLoad 73 = .ok (.aload_n 0, 1) := by decide +kernel
theorem dX9_dropLoad_74 : decode cX9_dropLoad 74 = .ok (.getfield 7, 3) := by decide +kernel
theorem dX9_dropLoad_77 : decode cX9_dropLoad 77 = .ok (.iload_n 3, 1) := by decide +kernel
theorem dX9_dropLoad_78 : decode cX9_dropLoad 78 = .ok (.aload_n 0, 1) := by decide +kernel
theorem dX9_dropLoad_79 : decode cX9_dropLoad 79 = .ok (.getfield 7, 3) := by decide +kernel
theorem dX9_dropLoad_82 : decode cX9_dropLoad 82 = .ok (.iload_n 3, 1) := by decide +kernel
theorem dX9_dropLoad_83 : decode cX9_dropLoad 83 = .ok (.iconst 3, 1) := by decide +kernel
theorem dX9_dropLoad_84 : decode cX9_dropLoad 84 = .ok (.iadd, 1) := by decide +kernel
theorem dX9_dropLoad_85 : decode cX9_dropLoad 85 = .ok (.iaload, 1) := by decide +kernel
theorem dX9_dropLoad_86 : decode cX9_dropLoad 86 = .ok (.iastore, 1) := by decide +kernel
theorem dX9_dropLoad_87 : decode cX9_dropLoad 87 = .ok (.iinc 3 1, 3) := by decide +kernel
theorem dX9_dropLoad_90 : decode cX9_dropLoad 90 = .ok (.goto (-33), 3) := by decide +kernel
theorem dX9_dropLoad_93 : decode cX9_dropLoad 93 = .ok (.iload_n 2, 1) := by decide +kernel
theorem dX9_dropLoad_94 : decode cX9_dropLoad 94 = .ok (.ireturn, 1) := by decide +kernel
set_option maxRecDepth 20000 in
theorem ggX9_loadOf_X9_in : GoodIn wsX9_loadOf wsX9_in := goodIn_r _ [7] (by decide +kernel) (by decide +kernel)
set_option maxRecDepth 20000 in
theorem gX9_loadOf_X9_in : GoodIn wsX9_loadOf (va_wsS RX9 42 yX9_in wsX9_in) := goodIn_app (goodIn_of _ (by decide +kernel)) ggX9_loadOf_X9_in
theorem dX9_loadOf_0 : decode cX9_loadOf 0 = .ok (.iload_n 1, 1) := by decide +kernel
theorem dX9_loadOf_1 : decode cX9_loadOf 1 = .ok (.ifCond .lt 12, 3) := by decide +kernel
theorem dX9_loadOf_4 : decode cX9_loadOf 4 = .ok (.iload_n 2, 1) := by decide +kernel
theorem dX9_loadOf_5 : decode cX9_loadOf 5 = .ok (.iconst 0, 1) := by decide +kernel
theorem dX9_loadOf_6 : decode cX9_loadOf 6 = .ok (.iconst 2, 1) := by decide +kernel
theorem dX9_loadOf_7 : decode cX9_loadOf 7 = .ok (.invokestatic 42, 3) := by decide +kernel
theorem dX9_loadOf_10 : decode cX9_loadOf 10 = .ok (.ifCond .ne 6, 3) := by decide +kernel
theorem dX9_loadOf_13 : decode cX9_loadOf 13 = .ok (.ldc 53, 2) := by decide +kernel
theorem dX9_loadOf_15 : decode cX9_loadOf 15 = .ok (.ireturn, 1) := by decide +kernel
theorem dX9_loadOf_16 : decode cX9_loadOf 16 = .ok (.iload_n 1, 1) := by decide +kernel
theorem dX9_loadOf_17 : decode cX9_loadOf 17 = .ok (.aload_n 0, 1) := by decide +kernel
theorem dX9_loadOf_18 : decode cX9_loadOf 18 = .ok (.getfield 7, 3) := by decide +kernel
theorem dX9_loadOf_21 : decode cX9_loadOf 21 = .ok (.bipush 18, 2) := by decide +kernel
theorem dX9_loadOf_23 : decode cX9_loadOf 23 = .ok (.iaload, 1) := by decide +kernel
theorem dX9_loadOf_24 : decode cX9_loadOf 24 = .ok (.if_icmp .lt 8, 3) := by decide +kernel
theorem dX9_loadOf_27 : decode cX9_loadOf 27 = .ok (.ldc 59, 2) := by decide +kernel
theorem dX9_loadOf_29 : decode cX9_loadOf 29 = .ok (.goto 16, 3) := by decide +kernel
theorem dX9_loadOf_32 : decode cX9_loadOf 32 = .ok (.aload_n 0, 1) := by decide +kernel
theorem dX9_loadOf_33 : decode cX9_loadOf 33 = .ok (.getfield 7, 3) := by decide +kernel
theorem dX9_loadOf_36 : decode cX9_loadOf 36 = .ok (.bipush 19, 2) := by decide +kernel
theorem dX9_loadOf_38 : decode cX9_loadOf 38 = .ok (.iconst 3, 1) := by decide +kernel
theorem dX9_loadOf_39 : decode cX9_loadOf 39 = .ok (.iload_n 1, 1) := by decide +kernel
theorem dX9_loadOf_40 : decode cX9_loadOf 40 = .ok (.imul, 1) := by decide +kernel
theorem dX9_loadOf_41 : decode cX9_loadOf 41 = .ok (.iadd, 1) := by decide +kernel
theorem dX9_loadOf_42 : decode cX9_loadOf 42 = .ok (.iload_n 2, 1) := by decide +kernel
theorem dX9_loadOf_43 : decode cX9_loadOf 43 = .ok (.iadd, 1) := by decide +kernel
theorem dX9_loadOf_44 : decode cX9_loadOf 44 = .ok (.iaload, 1) := by decide +kernel
theorem dX9_loadOf_45 : decode cX9_loadOf 45 = .ok (.ireturn, 1) := by decide +kernel
set_option maxRecDepth 20000 in
theorem ggX9_loadsAt_X9_in : GoodIn wsX9_loadsAt wsX9_in := goodIn_r _ [5] (by decide +kernel) (by decide +kernel)
set_option maxRecDepth 20000 in
theorem gX9_loadsAt_X9_in : GoodIn wsX9_loadsAt (va_wsS RX9 42 yX9_in wsX9_in) := goodIn_app (goodIn_of _ (by decide +kernel)) ggX9_loadsAt_X9_in
theorem dX9_loadsAt_0 : decode cX9_loadsAt 0 = .ok (.iconst 0, 1) := by decide +kernel
theorem dX9_loadsAt_1 : decode cX9_loadsAt 1 = .ok (.istore_n 2, 1) := by decide +kernel
theorem dX9_loadsAt_2 : decode cX9_loadsAt 2 = .ok (.iconst 0, 1) := by decide +kernel
theorem dX9_loadsAt_3 : decode cX9_loadsAt 3 = .ok (.istore_n 3, 1) := by decide +kernel
theorem dX9_loadsAt_4 : decode cX9_loadsAt 4 = .ok (.iload_n 3, 1) := by decide +kernel
theorem dX9_loadsAt_5 : decode cX9_loadsAt 5 = .ok (.aload_n 0, 1) := by decide +kernel
theorem dX9_loadsAt_6 : decode cX9_loadsAt 6 = .ok (.getfield 7, 3) := by decide +kernel
theorem dX9_loadsAt_9 : decode cX9_loadsAt 9 = .ok (.bipush 18, 2) := by decide +kernel
theorem dX9_loadsAt_11 : decode cX9_loadsAt 11 = .ok (.iaload, 1) := by decide +kernel
theorem dX9_loadsAt_12 : decode cX9_loadsAt 12 = .ok (.if_icmp .ge 60, 3) := by decide +kernel
theorem dX9_loadsAt_15 : decode cX9_loadsAt 15 = .ok (.iload_n 2, 1) := by decide +kernel
theorem dX9_loadsAt_16 : decode cX9_loadsAt 16 = .ok (.iload_n 1, 1) := by decide +kernel
theorem dX9_loadsAt_17 : decode cX9_loadsAt 17 = .ok (.aload_n 0, 1) := by decide +kernel
theorem dX9_loadsAt_18 : decode cX9_loadsAt 18 = .ok (.getfield 7, 3) := by decide +kernel
theorem dX9_loadsAt_21 : decode cX9_loadsAt 21 = .ok (.bipush 19, 2) := by decide +kernel
theorem dX9_loadsAt_23 : decode cX9_loadsAt 23 = .ok (.iconst 3, 1) := by decide +kernel
theorem dX9_loadsAt_24 : decode cX9_loadsAt 24 = .ok (.iload_n 3, 1) := by decide +kernel
theorem dX9_loadsAt_25 : decode cX9_loadsAt 25 = .ok (.imul, 1) := by decide +kernel
theorem dX9_loadsAt_26 : decode cX9_loadsAt 26 = .ok (.iadd, 1) := by decide +kernel
theorem dX9_loadsAt_27 : decode cX9_loadsAt 27 = .ok (.iaload, 1) := by decide +kernel
theorem dX9_loadsAt_28 : decode cX9_loadsAt 28 = .ok (.aload_n 0, 1) := by decide +kernel
theorem dX9_loadsAt_29 : decode cX9_loadsAt 29 = .ok (.getfield 7, 3) := by decide +kernel
theorem dX9_loadsAt_32 : decode cX9_loadsAt 32 = .ok (.bipush 19, 2) := by decide +kernel
theorem dX9_loadsAt_34 : decode cX9_loadsAt 34 = .ok (.iconst 3, 1) := by decide +kernel
theorem dX9_loadsAt_35 : decode cX9_loadsAt 35 = .ok (.iload_n 3, 1) := by decide +kernel
theorem dX9_loadsAt_36 : decode cX9_loadsAt 36 = .ok (.imul, 1) := by decide +kernel
theorem dX9_loadsAt_37 : decode cX9_loadsAt 37 = .ok (.iadd, 1) := by decide +kernel
theorem dX9_loadsAt_38 : decode cX9_loadsAt 38 = .ok (.iconst 1, 1) := by decide +kernel
theorem dX9_loadsAt_39 : decode cX9_loadsAt 39 = .ok (.iadd, 1) := by decide +kernel
theorem dX9_loadsAt_40 : decode cX9_loadsAt 40 = .ok (.iaload, 1) := by decide +kernel
theorem dX9_loadsAt_41 : decode cX9_loadsAt 41 = .ok (.invokestatic 42, 3) := by decide +kernel
theorem dX9_loadsAt_44 : decode cX9_loadsAt 44 = .ok (.ifCond .eq 19, 3) := by decide +kernel
theorem dX9_loadsAt_47 : decode cX9_loadsAt 47 = .ok (.aload_n 0, 1) := by decide +kernel
theorem dX9_loadsAt_48 : decode cX9_loadsAt 48 = .ok (.getfield 7, 3) := by decide +kernel
theorem dX9_loadsAt_51 : decode cX9_loadsAt 51 = .ok (.bipush 19, 2) := by decide +kernel
theorem dX9_loadsAt_53 : decode cX9_loadsAt 53 = .ok (.iconst 3, 1) := by decide +kernel
theorem dX9_loadsAt_54 : decode cX9_loadsAt 54 = .ok (.iload_n 3, 1) := by decide +kernel
theorem dX9_loadsAt_55 : decode cX9_loadsAt 55 = .ok (.imul, 1) := by decide +kernel
theorem dX9_loadsAt_56 : decode cX9_loadsAt 56 = .ok (.iadd, 1) := by decide +kernel
theorem dX9_loadsAt_57 : decode cX9_loadsAt 57 = .ok (.iconst 2, 1) := by decide +kernel
theorem dX9_loadsAt_58 : decode cX9_loadsAt 58 = .ok (.iadd, 1) := by decide +kernel
theorem dX9_loadsAt_59 : decode cX9_loadsAt 59 = .ok (.iaload, 1) := by decide +kernel
theorem dX9_loadsAt_60 : decode cX9_loadsAt 60 = .ok (.goto 4, 3) := by decide +kernel
theorem dX9_loadsAt_63 : decode cX9_loadsAt 63 = .ok (.iconst 0, 1) := by decide +kernel
theorem dX9_loadsAt_64 : decode cX9_loadsAt 64 = .ok (.iadd, 1) := by decide +kernel
theorem dX9_loadsAt_65 : decode cX9_loadsAt 65 = .ok (.istore_n 2, 1) := by decide +kernel
theorem dX9_loadsAt_66 : decode cX9_loadsAt 66 = .ok (.iinc 3 1, 3) := by decide +kernel
theorem dX9_loadsAt_69 : decode cX9_loadsAt 69 = .ok (.goto (-65), 3) := by decide +kernel
theorem dX9_loadsAt_72 : decode cX9_loadsAt 72 = .ok (.iload_n 2, 1) := by decide +kernel
theorem dX9_loadsAt_73 : decode cX9_loadsAt 73 = .ok (.ireturn, 1) := by decide +kernel
set_option maxRecDepth 20000 in
theorem ggX9_loadAt_X9_in : GoodIn wsX9_loadAt wsX9_in := goodIn_r _ [5] (by decide +kernel) (by decide +kernel)
set_option maxRecDepth 20000 in
theorem gX9_loadAt_X9_in : GoodIn wsX9_loadAt (va_wsS RX9 42 yX9_in wsX9_in) := goodIn_app (goodIn_of _ (by decide +kernel)) ggX9_loadAt_X9_in
set_option maxRecDepth 20000 in
theorem ggX9_loadAt_X9_loadsAt : GoodIn wsX9_loadAt wsX9_loadsAt := goodIn_r _ [9, 10, 2, 3, 4, 5, 11, 12, 13, 14, 15, 16, 17, 18, 19, 20, 21, 22, 23, 24, 25, 26, 27, 28, 29] (by decide +kernel) (by decide +kernel)
set_option maxRecDepth 20000 in
theorem gX9_loadAt_X9_loadsAt : GoodIn wsX9_loadAt (wsV RX9 60 RX9 yX9_loadsAt wsX9_loadsAt) := goodIn_app (goodIn_of _ (by decide +kernel)) ggX9_loadAt_X9_loadsAt
theorem dX9_loadAt_0 : decode cX9_loadAt 0 = .ok (.iload_n 1, 1) := by decide +kernel
theorem dX9_loadAt_1 : decode cX9_loadAt 1 = .ok (.sipush (-3000), 3) := by decide +kernel
theorem dX9_loadAt_4 : decode cX9_loadAt 4 = .ok (.sipush 3000, 3) := by decide +kernel
theorem dX9_loadAt_7 : decode cX9_loadAt 7 = .ok (.invokestatic 42, 3) := by decide +kernel
theorem dX9_loadAt_10 : decode cX9_loadAt 10 = .ok (.ifCond .eq 11, 3) := by decide +kernel
theorem dX9_loadAt_13 : decode cX9_loadAt 13 = .ok (.aload_n 0, 1) := by decide +kernel
theorem dX9_loadAt_14 : decode cX9_loadAt 14 = .ok (.iload_n 1, 1) := by decide +kernel
theorem dX9_loadAt_15 : decode cX9_loadAt 15 = .ok (.invokevirtual 60, 3) := by decide +kernel
theorem dX9_loadAt_18 : decode cX9_loadAt 18 = .ok (.goto 5, 3) := by decide +kernel
theorem dX9_loadAt_21 : decode cX9_loadAt 21 = .ok (.ldc 53, 2) := by decide +kernel
theorem dX9_loadAt_23 : decode cX9_loadAt 23 = .ok (.ireturn, 1) := by decide +kernel
theorem dX9_lays_0 : decode cX9_lays 0 = .ok (.aload_n 0, 1) := by decide +kernel
theorem dX9_lays_1 : decode cX9_lays 1 = .ok (.iconst 0, 1) := by decide +kernel
theorem dX9_lays_2 : decode cX9_lays 2 = .ok (.putfield 63, 3) := by decide +kernel
theorem dX9_lays_5 : decode cX9_lays 5 = .ok (.aload_n 0, 1) := by decide +kernel
theorem dX9_lays_6 : decode cX9_lays 6 = .ok (.getfield 25, 3) := by decide +kernel
theorem dX9_lays_9 : decode cX9_lays 9 = .ok (.iconst 0, 1) := by decide +kernel
theorem dX9_lays_10 : decode cX9_lays 10 = .ok (.aload_n 0, 1) := by decide +kernel
theorem dX9_lays_11 : decode cX9_lays 11 = .ok (.getfield 7, 3) := by decide +kernel
theorem dX9_lays_14 : decode cX9_lays 14 = .ok (.iconst 0, 1) := by decide +kernel
theorem dX9_lays_15 : decode cX9_lays 15 = .ok (.iaload, 1) := by decide +kernel
theorem dX9_lays_16 : decode cX9_lays 16 = .ok (.iastore, 1) := by decide +kernel
theorem dX9_lays_17 : decode cX9_lays 17 = .ok (.aload_n 0, 1) := by decide +kernel
theorem dX9_lays_18 : decode cX9_lays 18 = .ok (.getfield 28, 3) := by decide +kernel
theorem dX9_lays_21 : decode cX9_lays 21 = .ok (.iconst 0, 1) := by decide +kernel
theorem dX9_lays_22 : decode cX9_lays 22 = .ok (.iconst 0, 1) := by decide +kernel
theorem dX9_lays_23 : decode cX9_lays 23 = .ok (.iastore, 1) := by decide +kernel
theorem dX9_lays_24 : decode cX9_lays 24 = .ok (.aload_n 0, 1) := by decide +kernel
theorem dX9_lays_25 : decode cX9_lays 25 = .ok (.getfield 25, 3) := by decide +kernel
theorem dX9_lays_28 : decode cX9_lays 28 = .ok (.aload_n 0, 1) := by decide +kernel
theorem dX9_lays_29 : decode cX9_lays 29 = .ok (.getfield 63, 3) := by decide +kernel
theorem dX9_lays_32 : decode cX9_lays 32 = .ok (.iaload, 1) := by decide +kernel
theorem dX9_lays_33 : decode cX9_lays 33 = .ok (.aload_n 0, 1) := by decide +kernel
theorem dX9_lays_34 : decode cX9_lays 34 = .ok (.getfield 7, 3) := by decide +kernel
theorem dX9_lays_37 : decode cX9_lays 37 = .ok (.iconst 1, 1) := by decide +kernel
theorem dX9_lays_38 : decode cX9_lays 38 = .ok (.iaload, 1) := by decide +kernel
theorem dX9_lays_39 : decode cX9_lays 39 = .ok (.if_icmp .le 122, 3) := by decide +kernel
theorem dX9_lays_42 : decode cX9_lays 42 = .ok (.aload_n 0, 1) := by decide +kernel
theorem dX9_lays_43 : decode cX9_lays 43 = .ok (.getfield 63, 3) := by decide +kernel
theorem dX9_lays_46 : decode cX9_lays 46 = .ok (.aload_n 0, 1) := by decide +kernel
theorem dX9_lays_47 : decode cX9_lays 47 = .ok (.getfield 7, 3) := by decide +kernel
theorem dX9_lays_50 : decode cX9_lays 50 = .ok (.iconst 2, 1) := by decide +kernel
theorem dX9_lays_51 : decode cX9_lays 51 = .ok (.iaload, 1) := by decide +kernel
theorem dX9_lays_52 : decode cX9_lays 52 = .ok (.if_icmp .ge 109, 3) := by decide +kernel
theorem dX9_lays_55 : decode cX9_lays 55 = .ok (.iconst 2, 1) := by decide +kernel
theorem dX9_lays_56 : decode cX9_lays 56 = .ok (.aload_n 0, 1) := by decide +kernel
theorem dX9_lays_57 : decode cX9_lays 57 = .ok (.getfield 25, 3) := by decide +kernel
theorem dX9_lays_60 : decode cX9_lays 60 = .ok (.aload_n 0, 1) := by decide +kernel
theorem dX9_lays_61 : decode cX9_lays 61 = .ok (.getfield 63, 3) := by decide +kernel
theorem dX9_lays_64 : decode cX9_lays 64 = .ok (.iaload, 1) := by decide +kernel
theorem dX9_lays_65 : decode cX9_lays 65 = .ok (.imul, 1) := by decide +kernel
theorem dX9_lays_66 : decode cX9_lays 66 = .ok (.aload_n 0, 1) := by decide +kernel
theorem dX9_lays_67 : decode cX9_lays 67 = .ok (.getfield 28, 3) := by decide +kernel
theorem dX9_lays_70 : decode cX9_lays 70 = .ok (.aload_n 0, 1) := by decide +kernel
theorem dX9_lays_71 : decode cX9_lays 71 = .ok (.getfield 63, 3) := by decide +kernel
theorem dX9_lays_74 : decode cX9_lays 74 = .ok (.iaload, 1) := by decide +kernel
theorem dX9_lays_75 : decode cX9_lays 75 = .ok (.iadd, 1) := by decide +kernel
theorem dX9_lays_76 : decode cX9_lays 76 = .ok (.istore_n 1, 1) := by decide +kernel
theorem dX9_lays_77 : decode cX9_lays 77 = .ok (.aload_n 0, 1) := by decide +kernel
theorem dX9_lays_78 : decode cX9_lays 78 = .ok (.dup, 1) := by decide +kernel
theorem dX9_lays_79 : decode cX9_lays 79 = .ok (.getfield 63, 3) := by decide +kernel
theorem dX9_lays_82 : decode cX9_lays 82 = .ok (.iconst 1, 1) := by decide +kernel
theorem dX9_lays_83 : decode cX9_lays 83 = .ok (.iadd, 1) := by decide +kernel
theorem dX9_lays_84 : decode cX9_lays 84 = .ok (.putfield 63, 3) := by decide +kernel
theorem dX9_lays_87 : decode cX9_lays 87 = .ok (.aload_n 0, 1) := by decide +kernel
theorem dX9_lays_88 : decode cX9_lays 88 = .ok (.getfield 25, 3) := by decide +kernel
theorem dX9_lays_91 : decode cX9_lays 91 = .ok (.aload_n 0, 1) := by decide +kernel
theorem dX9_lays_92 : decode cX9_lays 92 = .ok (.getfield 63, 3) := by decide +kernel
theorem dX9_lays_95 : decode cX9_lays 95 = .ok (.iconst 1, 1) := by decide +kernel
theorem dX9_lays_96 : decode cX9_lays 96 = .ok (.isub, 1) := by decide +kernel
theorem dX9_lays_97 : decode cX9_lays 97 = .ok (.iaload, 1) := by decide +kernel
theorem dX9_lays_98 : decode cX9_lays 98 = .ok (.iload_n 1, 1) := by decide +kernel
theorem dX9_lays_99 : decode cX9_lays 99 = .ok (.iconst 4, 1) := by decide +kernel
theorem dX9_lays_100 : decode cX9_lays 100 = .ok (.aload_n 0, 1) := by decide +kernel
theorem dX9_lays_101 : decode cX9_lays 101 = .ok (.getfield 63, 3) := by decide +kernel
theorem dX9_lays_104 : decode cX9_lays 104 = .ok (.imul, 1) := by decide +kernel
theorem dX9_lays_105 : decode cX9_lays 105 = .ok (.iconst 1, 1) := by decide +kernel
theorem dX9_lays_106 : decode cX9_lays 106 = .ok (.iadd, 1) := by decide +kernel
theorem dX9_lays_107 : decode cX9_lays 107 = .ok (.idiv, 1) := by decide +kernel
theorem dX9_lays_108 : decode cX9_lays 108 = .ok (.isub, 1) := by decide +kernel
theorem dX9_lays_109 : decode cX9_lays 109 = .ok (.istore_n 2, 1) := by decide +kernel
theorem dX9_lays_110 : decode cX9_lays 110 = .ok (.aload_n 0, 1) := by decide +kernel
theorem dX9_lays_111 : decode cX9_lays 111 = .ok (.getfield 28, 3) := by decide +kernel
theorem dX9_lays_114 : decode cX9_lays 114 = .ok (.aload_n 0, 1) := by decide +kernel
theorem dX9_lays_115 : decode cX9_lays 115 = .ok (.getfield 63, 3) := by decide +kernel
theorem dX9_lays_118 : decode cX9_lays 118 = .ok (.iload_n 1, 1) := by decide +kernel
theorem dX9_lays_119 : decode cX9_lays 119 = .ok (.iconst 4, 1) := by decide +kernel
theorem dX9_lays_120 : decode cX9_lays 120 = .ok (.aload_n 0, 1) := by decide +kernel
theorem dX9_lays_121 : decode cX9_lays 121 = .ok (.getfield 63, 3) := by decide +kernel
theorem dX9_lays_124 : decode cX9_lays 124 = .ok (.imul, 1) := by decide +kernel
theorem dX9_lays_125 : decode cX9_lays 125 = .ok (.iconst 1, 1) := by decide +kernel
theorem dX9_lays_126 : decode cX9_lays 126 = .ok (.iadd, 1) := by decide +kernel
theorem dX9_lays_127 : decode cX9_lays 127 = .ok (.irem, 1) := by decide +kernel
theorem dX9_lays_128 : decode cX9_lays 128 = .ok (.iastore, 1) := by decide +kernel
theorem dX9_lays_129 : decode cX9_lays 129 = .ok (.aload_n 0, 1) := by decide +kernel
theorem dX9_lays_130 : decode cX9_lays 130 = .ok (.getfield 25, 3) := by decide +kernel
theorem dX9_lays_133 : decode cX9_lays 133 = .ok (.aload_n 0, 1) := by decide +kernel
theorem dX9_lays_134 : decode cX9_lays 134 = .ok (.getfield 63, 3) := by decide +kernel
theorem dX9_lays_137 : decode cX9_lays 137 = .ok (.iload_n 2, 1) := by decide +kernel
theorem dX9_lays_138 : decode cX9_lays 138 = .ok (.aload_n 0, 1) := by decide +kernel
theorem dX9_lays_139 : decode cX9_lays 139 = .ok (.getfield 7, 3) := by decide +kernel
theorem dX9_lays_142 : decode cX9_lays 142 = .ok (.iconst 1, 1) := by decide +kernel
theorem dX9_lays_143 : decode cX9_lays 143 = .ok (.iaload, 1) := by decide +kernel
theorem dX9_lays_144 : decode cX9_lays 144 = .ok (.if_icmp .le 7, 3) := by decide +kernel
theorem dX9_lays_147 : decode cX9_lays 147 = .ok (.iload_n 2, 1) := by decide +kernel
theorem dX9_lays_148 : decode cX9_lays 148 = .ok (.goto 9, 3) := by decide +kernel
theorem dX9_lays_151 : decode cX9_lays 151 = .ok (.aload_n 0, 1) := by decide +kernel
theorem dX9_lays_152 : decode cX9_lays 152 = .ok (.getfield 7, 3) := by decide +kernel
theorem dX9_lays_155 : decode cX9_lays 155 = .ok (.iconst 1, 1) := by decide +kernel
theorem dX9_lays_156 : decode cX9_lays 156 = .ok (.iaload, 1) := by decide +kernel
theorem dX9_lays_157 : decode cX9_lays 157 = .ok (.iastore, 1) := by decide +kernel
theorem dX9_lays_158 : decode cX9_lays 158 = .ok (.goto (-134), 3) := by decide +kernel
theorem dX9_lays_161 : decode cX9_lays 161 = .ok (.return_, 1) := by decide +kernel
theorem dX9_pull_0 : decode cX9_pull 0 = .ok (.aload_n 0, 1) := by decide +kernel
theorem dX9_pull_1 : decode cX9_pull 1 = .ok (.getfield 7, 3) := by decide +kernel
theorem dX9_pull_4 : decode cX9_pull 4 = .ok (.iconst 3, 1) := by decide +kernel
theorem dX9_pull_5 : decode cX9_pull 5 = .ok (.iaload, 1) := by decide +kernel
theorem dX9_pull_6 : decode cX9_pull 6 = .ok (.iload_n 1, 1) := by decide +kernel
theorem dX9_pull_7 : decode cX9_pull 7 = .ok (.aload_n 0, 1) := by decide +kernel
theorem dX9_pull_8 : decode cX9_pull 8 = .ok (.getfield 7, 3) := by decide +kernel
theorem dX9_pull_11 : decode cX9_pull 11 = .ok (.iconst 4, 1) := by decide +kernel
theorem dX9_pull_12 : decode cX9_pull 12 = .ok (.iaload, 1) := by decide +kernel
theorem dX9_pull_13 : decode cX9_pull 13 = .ok (.imul, 1) := by decide +kernel
theorem dX9_pull_14 : decode cX9_pull 14 = .ok (.bipush 16, 2) := by decide +kernel
theorem dX9_pull_16 : decode cX9_pull 16 = .ok (.idiv, 1) := by decide +kernel
theorem dX9_pull_17 : decode cX9_pull 17 = .ok (.isub, 1) := by decide +kernel
theorem dX9_pull_18 : decode cX9_pull 18 = .ok (.istore_n 2, 1) := by decide +kernel
theorem dX9_pull_19 : decode cX9_pull 19 = .ok (.iload_n 2, 1) := by decide +kernel
theorem dX9_pull_20 : decode cX9_pull 20 = .ok (.ifCond .ge 7, 3) := by decide +kernel
theorem dX9_pull_23 : decode cX9_pull 23 = .ok (.iconst 0, 1) := by decide +kernel
theorem dX9_pull_24 : decode cX9_pull 24 = .ok (.goto 4, 3) := by decide +kernel
theorem dX9_pull_27 : decode cX9_pull 27 = .ok (.iload_n 2, 1) := by decide +kernel
theorem dX9_pull_28 : decode cX9_pull 28 = .ok (.ireturn, 1) := by decide +kernel
set_option maxRecDepth 20000 in
theorem ggX9_ramp_X9_in : GoodIn wsX9_ramp wsX9_in := goodIn_r _ [9] (by decide +kernel) (by decide +kernel)
set_option maxRecDepth 20000 in
theorem gX9_ramp_X9_in : GoodIn wsX9_ramp (va_wsS RX9 42 yX9_in wsX9_in) := goodIn_app (goodIn_of _ (by decide +kernel)) ggX9_ramp_X9_in
set_option maxRecDepth 20000 in
theorem ggX9_ramp_X9_lays : GoodIn wsX9_ramp wsX9_lays := goodIn_r _ [13, 2, 4, 14, 5, 19, 20, 21, 22, 23, 24, 25, 26, 27, 28, 29, 30, 31, 32, 33, 34, 35, 36, 37] (by decide +kernel) (by decide +kernel)
set_option maxRecDepth 20000 in
theorem gX9_ramp_X9_lays : GoodIn wsX9_ramp (wsV RX9 66 RX9 yX9_lays wsX9_lays) := goodIn_app (goodIn_of _ (by decide +kernel)) ggX9_ramp_X9_lays
set_option maxRecDepth 20000 in
theorem ggX9_ramp_X9_pull : GoodIn wsX9_ramp wsX9_pull := goodIn_r _ [18, 14, 19, 20, 21, 22, 23, 24, 25, 26, 27, 28, 29, 30, 31, 32, 33, 34, 35, 36, 37] (by decide +kernel) (by decide +kernel)
set_option maxRecDepth 20000 in
theorem gX9_ramp_X9_pull : GoodIn wsX9_ramp (wsV RX9 69 RX9 yX9_pull wsX9_pull) := goodIn_app (goodIn_of _ (by decide +kernel)) ggX9_ramp_X9_pull
theorem dX9_ramp_0 : decode cX9_ramp 0 = .ok (.iload_n 1, 1) := by decide +kernel
theorem dX9_ramp_1 : decode cX9_ramp 1 = .ok (.ifCond .lt 12, 3) := by decide +kernel
theorem dX9_ramp_4 : decode cX9_ramp 4 = .ok (.iload_n 2, 1) := by decide +kernel
theorem dX9_ramp_5 : decode cX9_ramp 5 = .ok (.iconst 0, 1) := by decide +kernel
theorem dX9_ramp_6 : decode cX9_ramp 6 = .ok (.iconst 3, 1) := by decide +kernel
theorem dX9_ramp_7 : decode cX9_ramp 7 = .ok (.invokestatic 42, 3) := by decide +kernel
theorem dX9_ramp_10 : decode cX9_ramp 10 = .ok (.ifCond .ne 6, 3) := by decide +kernel
theorem dX9_ramp_13 : decode cX9_ramp 13 = .ok (.ldc 53, 2) := by decide +kernel
theorem dX9_ramp_15 : decode cX9_ramp 15 = .ok (.ireturn, 1) := by decide +kernel
theorem dX9_ramp_16 : decode cX9_ramp 16 = .ok (.aload_n 0, 1) := by decide +kernel
theorem dX9_ramp_17 : decode cX9_ramp 17 = .ok (.invokevirtual 66, 3) := by decide +kernel
theorem dX9_ramp_20 : decode cX9_ramp 20 = .ok (.iload_n 1, 1) := by decide +kernel
theorem dX9_ramp_21 : decode cX9_ramp 21 = .ok (.aload_n 0, 1) := by decide +kernel
theorem dX9_ramp_22 : decode cX9_ramp 22 = .ok (.getfield 63, 3) := by decide +kernel
theorem dX9_ramp_25 : decode cX9_ramp 25 = .ok (.if_icmp .le 6, 3) := by decide +kernel
theorem dX9_ramp_28 : decode cX9_ramp 28 = .ok (.ldc 59, 2) := by decide +kernel
theorem dX9_ramp_30 : decode cX9_ramp 30 = .ok (.ireturn, 1) := by decide +kernel
theorem dX9_ramp_31 : decode cX9_ramp 31 = .ok (.iconst 0, 1) := by decide +kernel
theorem dX9_ramp_32 : decode cX9_ramp 32 = .ok (.istore_n 3, 1) := by decide +kernel
theorem dX9_ramp_33 : decode cX9_ramp 33 = .ok (.iconst 0, 1) := by decide +kernel
theorem dX9_ramp_34 : decode cX9_ramp 34 = .ok (.istore 4, 2) := by decide +kernel
theorem dX9_ramp_36 : decode cX9_ramp 36 = .ok (.iload 4, 2) := by decide +kernel
theorem dX9_ramp_38 : decode cX9_ramp 38 = .ok (.iload_n 1, 1) := by decide +kernel
theorem dX9_ramp_39 : decode cX9_ramp 39 = .ok (.if_icmp .gt 19, 3) := by decide +kernel
theorem dX9_ramp_42 : decode cX9_ramp 42 = .ok (.iload_n 3, 1) := by decide +kernel
theorem dX9_ramp_43 : decode cX9_ramp 43 = .ok (.aload_n 0, 1) := by decide +kernel
theorem dX9_ramp_44 : decode cX9_ramp 44 = .ok (.getfield 25, 3) := by decide +kernel
theorem dX9_ramp_47 : decode cX9_ramp 47 = .ok (.iload 4, 2) := by decide +kernel
theorem dX9_ramp_49 : decode cX9_ramp 49 = .ok (.iaload, 1) := by decide +kernel
theorem dX9_ramp_50 : decode cX9_ramp 50 = .ok (.iadd, 1) := by decide +kernel
theorem dX9_ramp_51 : decode cX9_ramp 51 = .ok (.istore_n 3, 1) := by decide +kernel
theorem dX9_ramp_52 : decode cX9_ramp 52 = .ok (.iinc 4 1, 3) := by decide +kernel
theorem dX9_ramp_55 : decode cX9_ramp 55 = .ok (.goto (-19), 3) := by decide +kernel
theorem dX9_ramp_58 : decode cX9_ramp 58 = .ok (.iload_n 2, 1) := by decide +kernel
theorem dX9_ramp_59 : decode cX9_ramp 59 = .ok (.ifCond .ne 12, 3) := by decide +kernel
theorem dX9_ramp_62 : decode cX9_ramp 62 = .ok (.aload_n 0, 1) := by decide +kernel
theorem dX9_ramp_63 : decode cX9_ramp 63 = .ok (.getfield 25, 3) := by decide +kernel
theorem dX9_ramp_66 : decode cX9_ramp 66 = .ok (.iload_n 1, 1) := by decide +kernel
theorem dX9_ramp_67 : decode cX9_ramp 67 = .ok (.iaload, 1) := by decide +kernel
theorem dX9_ramp_68 : decode cX9_ramp 68 = .ok (.goto 31, 3) := by decide +kernel
theorem dX9_ramp_71 : decode cX9_ramp 71 = .ok (.iload_n 2, 1) := by decide +kernel
theorem dX9_ramp_72 : decode cX9_ramp 72 = .ok (.iconst 1, 1) := by decide +kernel
theorem dX9_ramp_73 : decode cX9_ramp 73 = .ok (.if_icmp .ne 12, 3) := by decide +kernel
theorem dX9_ramp_76 : decode cX9_ramp 76 = .ok (.aload_n 0, 1) := by decide +kernel
theorem dX9_ramp_77 : decode cX9_ramp 77 = .ok (.getfield 28, 3) := by decide +kernel
theorem dX9_ramp_80 : decode cX9_ramp 80 = .ok (.iload_n 1, 1) := by decide +kernel
theorem dX9_ramp_81 : decode cX9_ramp 81 = .ok (.iaload, 1) := by decide +kernel
theorem dX9_ramp_82 : decode cX9_ramp 82 = .ok (.goto 17, 3) := by decide +kernel
theorem dX9_ramp_85 : decode cX9_ramp 85 = .ok (.iload_n 2, 1) := by decide +kernel
theorem dX9_ramp_86 : decode cX9_ramp 86 = .ok (.iconst 2, 1) := by decide +kernel
theorem dX9_ramp_87 : decode cX9_ramp 87 = .ok (.if_icmp .ne 11, 3) := by decide +kernel
theorem dX9_ramp_90 : decode cX9_ramp 90 = .ok (.aload_n 0, 1) := by decide +kernel
theorem dX9_ramp_91 : decode cX9_ramp 91 = .ok (.iload_n 1, 1) := by decide +kernel
theorem dX9_ramp_92 : decode cX9_ramp 92 = .ok (.invokevirtual 69, 3) := by decide +kernel
theorem dX9_ramp_95 : decode cX9_ramp 95 = .ok (.goto 4, 3) := by decide +kernel
theorem dX9_ramp_98 : decode cX9_ramp 98 = .ok (.iload_n 3, 1) := by decide +kernel
theorem dX9_ramp_99 : decode cX9_ramp 99 = .ok (.ireturn, 1) := by decide +kernel
set_option maxRecDepth 20000 in
theorem ggX9_top_X9_lays : GoodIn wsX9_top wsX9_lays := goodIn_r _ [6, 1, 7, 8, 9, 10, 11, 12, 13, 14, 15, 16, 17, 18, 19, 20, 21, 22, 23, 24, 25, 26, 27, 28] (by decide +kernel) (by decide +kernel)
set_option maxRecDepth 20000 in
theorem gX9_top_X9_lays : GoodIn wsX9_top (wsV RX9 66 RX9 yX9_lays wsX9_lays) := goodIn_app (goodIn_of _ (by decide +kernel)) ggX9_top_X9_lays
theorem dX9_top_0 : decode cX9_top 0 = .ok (.aload_n 0, 1) := by decide +kernel
theorem dX9_top_1 : decode cX9_top 1 = .ok (.invokevirtual 66, 3) := by decide +kernel
theorem dX9_top_4 : decode cX9_top 4 = .ok (.aload_n 0, 1) := by decide +kernel
theorem dX9_top_5 : decode cX9_top 5 = .ok (.getfield 63, 3) := by decide +kernel
theorem dX9_top_8 : decode cX9_top 8 = .ok (.ireturn, 1) := by decide +kernel
theorem dX9_indexOf_0 : decode cX9_indexOf 0 = .ok (.iload_n 1, 1) := by decide +kernel
theorem dX9_indexOf_1 : decode cX9_indexOf 1 = .ok (.iload_n 2, 1) := by decide +kernel
theorem dX9_indexOf_2 : decode cX9_indexOf 2 = .ok (.iconst 1, 1) := by decide +kernel
theorem dX9_indexOf_3 : decode cX9_indexOf 3 = .ok (.isub, 1) := by decide +kernel
theorem dX9_indexOf_4 : decode cX9_indexOf 4 = .ok (.iload_n 1, 1) := by decide +kernel
theorem dX9_indexOf_5 : decode cX9_indexOf 5 = .ok (.isub, 1) := by decide +kernel
theorem dX9_indexOf_6 : decode cX9_indexOf 6 = .ok (.if_icmp .ge 7, 3) := by decide +kernel
theorem dX9_indexOf_9 : decode cX9_indexOf 9 = .ok (.iload_n 1, 1) := by decide +kernel
theorem dX9_indexOf_10 : decode cX9_indexOf 10 = .ok (.goto 8, 3) := by decide +kernel
theorem dX9_indexOf_13 : decode cX9_indexOf 13 = .ok (.iload_n 2, 1) := by decide +kernel
theorem dX9_indexOf_14 : decode cX9_indexOf 14 = .ok (.iconst 1, 1) := by decide +kernel
theorem dX9_indexOf_15 : decode cX9_indexOf 15 = .ok (.isub, 1) := by decide +kernel
theorem dX9_indexOf_16 : decode cX9_indexOf 16 = .ok (.iload_n 1, 1) := by decide +kernel
theorem dX9_indexOf_17 : decode cX9_indexOf 17 = .ok (.isub, 1) := by decide +kernel
theorem dX9_indexOf_18 : decode cX9_indexOf 18 = .ok (.istore_n 3, 1) := by decide +kernel
theorem dX9_indexOf_19 : decode cX9_indexOf 19 = .ok (.iload_n 3, 1) := by decide +kernel
theorem dX9_indexOf_20 : decode cX9_indexOf 20 = .ok (.aload_n 0, 1) := by decide +kernel
theorem dX9_indexOf_21 : decode cX9_indexOf 21 = .ok (.getfield 63, 3) := by decide +kernel
theorem dX9_indexOf_24 : decode cX9_indexOf 24 = .ok (.if_icmp .ge 7, 3) := by decide +kernel
theorem dX9_indexOf_27 : decode cX9_indexOf 27 = .ok (.iload_n 3, 1) := by decide +kernel
theorem dX9_indexOf_28 : decode cX9_indexOf 28 = .ok (.goto 7, 3) := by decide +kernel
theorem dX9_indexOf_31 : decode cX9_indexOf 31 = .ok (.aload_n 0, 1) := by decide +kernel
theorem dX9_indexOf_32 : decode cX9_indexOf 32 = .ok (.getfield 63, 3) := by decide +kernel
theorem dX9_indexOf_35 : decode cX9_indexOf 35 = .ok (.ireturn, 1) := by decide +kernel
set_option maxRecDepth 20000 in
theorem ggX9_timeOf_X9_in : GoodIn wsX9_timeOf wsX9_in := goodIn_r _ [6] (by decide +kernel) (by decide +kernel)
set_option maxRecDepth 20000 in
theorem gX9_timeOf_X9_in : GoodIn wsX9_timeOf (va_wsS RX9 42 yX9_in wsX9_in) := goodIn_app (goodIn_of _ (by decide +kernel)) ggX9_timeOf_X9_in
set_option maxRecDepth 20000 in
theorem ggX9_timeOf_X9_lays : GoodIn wsX9_timeOf wsX9_lays := goodIn_r _ [10, 11, 2, 12, 13, 18, 19, 20, 21, 22, 23, 24, 25, 26, 27, 28, 29, 30, 31, 32, 33, 34, 35, 36] (by decide +kernel) (by decide +kernel)
set_option maxRecDepth 20000 in
theorem gX9_timeOf_X9_lays : GoodIn wsX9_timeOf (wsV RX9 66 RX9 yX9_lays wsX9_lays) := goodIn_app (goodIn_of _ (by decide +kernel)) ggX9_timeOf_X9_lays
set_option maxRecDepth 20000 in
theorem ggX9_timeOf_X9_indexOf : GoodIn wsX9_timeOf wsX9_indexOf := goodIn_r _ [17, 11, 18, 19, 20, 21, 22, 23, 24, 25, 26, 27, 28, 29, 30, 31, 32, 33, 34, 35, 36] (by decide +kernel) (by decide +kernel)
set_option maxRecDepth 20000 in
theorem gX9_timeOf_X9_indexOf : GoodIn wsX9_timeOf (wsV RX9 72 RX9 yX9_indexOf wsX9_indexOf) := goodIn_app (goodIn_of _ (by decide +kernel)) ggX9_timeOf_X9_indexOf
theorem dX9_timeOf_0 : decode cX9_timeOf 0 = .ok (.iload_n 1, 1) := by decide +kernel
theorem dX9_timeOf_1 : decode cX9_timeOf 1 = .ok (.iconst 0, 1) := by decide +kernel
theorem dX9_timeOf_2 : decode cX9_timeOf 2 = .ok (.sipush 6000, 3) := by decide +kernel
theorem dX9_timeOf_5 : decode cX9_timeOf 5 = .ok (.invokestatic 42, 3) := by decide +kernel
theorem dX9_timeOf_8 : decode cX9_timeOf 8 = .ok (.ifCond .ne 6, 3) := by decide +kernel
theorem dX9_timeOf_11 : decode cX9_timeOf 11 = .ok (.ldc 53, 2) := by decide +kernel
theorem dX9_timeOf_13 : decode cX9_timeOf 13 = .ok (.ireturn, 1) := by decide +kernel
theorem dX9_timeOf_14 : decode cX9_timeOf 14 = .ok (.aload_n 0, 1) := by decide +kernel
theorem dX9_timeOf_15 : decode cX9_timeOf 15 = .ok (.invokevirtual 66, 3) := by decide +kernel
theorem dX9_timeOf_18 : decode cX9_timeOf 18 = .ok (.iconst 0, 1) := by decide +kernel
theorem dX9_timeOf_19 : decode cX9_timeOf 19 = .ok (.istore_n 2, 1) := by decide +kernel
theorem dX9_timeOf_20 : decode cX9_timeOf 20 = .ok (.iconst 0, 1) := by decide +kernel
theorem dX9_timeOf_21 : decode cX9_timeOf 21 = .ok (.istore_n 3, 1) := by decide +kernel
theorem dX9_timeOf_22 : decode cX9_timeOf 22 = .ok (.iload_n 3, 1) := by decide +kernel
theorem dX9_timeOf_23 : decode cX9_timeOf 23 = .ok (.iload_n 1, 1) := by decide +kernel
theorem dX9_timeOf_24 : decode cX9_timeOf 24 = .ok (.if_icmp .ge 23, 3) := by decide +kernel
theorem dX9_timeOf_27 : decode cX9_timeOf 27 = .ok (.iload_n 2, 1) := by decide +kernel
theorem dX9_timeOf_28 : decode cX9_timeOf 28 = .ok (.aload_n 0, 1) := by decide +kernel
theorem dX9_timeOf_29 : decode cX9_timeOf 29 = .ok (.getfield 25, 3) := by decide +kernel
theorem dX9_timeOf_32 : decode cX9_timeOf 32 = .ok (.aload_n 0, 1) := by decide +kernel
theorem dX9_timeOf_33 : decode cX9_timeOf 33 = .ok (.iload_n 3, 1) := by decide +kernel
theorem dX9_timeOf_34 : decode cX9_timeOf 34 = .ok (.iload_n 1, 1) := by decide +kernel
theorem dX9_timeOf_35 : decode cX9_timeOf 35 = .ok (.invokevirtual 72, 3) := by decide +kernel
theorem dX9_timeOf_38 : decode cX9_timeOf 38 = .ok (.iaload, 1) := by decide +kernel
theorem dX9_timeOf_39 : decode cX9_timeOf 39 = .ok (.iadd, 1) := by decide +kernel
theorem dX9_timeOf_40 : decode cX9_timeOf 40 = .ok (.istore_n 2, 1) := by decide +kernel
theorem dX9_timeOf_41 : decode cX9_timeOf 41 = .ok (.iinc 3 1, 3) := by decide +kernel
theorem dX9_timeOf_44 : decode cX9_timeOf 44 = .ok (.goto (-22), 3) := by decide +kernel
theorem dX9_timeOf_47 : decode cX9_timeOf 47 = .ok (.iload_n 2, 1) := by decide +kernel
theorem dX9_timeOf_48 : decode cX9_timeOf 48 = .ok (.ireturn, 1) := by decide +kernel
theorem dX9_looks_0 : decode cX9_looks 0 = .ok (.aload_n 0, 1) := by decide +kernel
theorem dX9_looks_1 : decode cX9_looks 1 = .ok (.getfield 7, 3) := by decide +kernel
theorem dX9_looks_4 : decode cX9_looks 4 = .ok (.bipush 11, 2) := by decide +kernel
theorem dX9_looks_6 : decode cX9_looks 6 = .ok (.iaload, 1) := by decide +kernel
theorem dX9_looks_7 : decode cX9_looks 7 = .ok (.aload_n 0, 1) := by decide +kernel
theorem dX9_looks_8 : decode cX9_looks 8 = .ok (.getfield 7, 3) := by decide +kernel
theorem dX9_looks_11 : decode cX9_looks 11 = .ok (.iconst 5, 1) := by decide +kernel
theorem dX9_looks_12 : decode cX9_looks 12 = .ok (.iaload, 1) := by decide +kernel
theorem dX9_looks_13 : decode cX9_looks 13 = .ok (.if_icmp .gt 14, 3) := by decide +kernel
theorem dX9_looks_16 : decode cX9_looks 16 = .ok (.aload_n 0, 1) := by decide +kernel
theorem dX9_looks_17 : decode cX9_looks 17 = .ok (.getfield 7, 3) := by decide +kernel
theorem dX9_looks_20 : decode cX9_looks 20 = .ok (.bipush 14, 2) := by decide +kernel
theorem dX9_looks_22 : decode cX9_looks 22 = .ok (.iconst 1, 1) := by decide +kernel
theorem dX9_looks_23 : decode cX9_looks 23 = .ok (.iastore, 1) := by decide +kernel
theorem dX9_looks_24 : decode cX9_looks 24 = .ok (.goto 35, 3) := by decide +kernel
theorem dX9_looks_27 : decode cX9_looks 27 = .ok (.aload_n 0, 1) := by decide +kernel
theorem dX9_looks_28 : decode cX9_looks 28 = .ok (.getfield 7, 3) := by decide +kernel
theorem dX9_looks_31 : decode cX9_looks 31 = .ok (.bipush 11, 2) := by decide +kernel
theorem dX9_looks_33 : decode cX9_looks 33 = .ok (.iaload, 1) := by decide +kernel
theorem dX9_looks_34 : decode cX9_looks 34 = .ok (.aload_n 0, 1) := by decide +kernel
theorem dX9_looks_35 : decode cX9_looks 35 = .ok (.getfield 7, 3) := by decide +kernel
theorem dX9_looks_38 : decode cX9_looks 38 = .ok (.iconst 5, 1) := by decide +kernel
theorem dX9_looks_39 : decode cX9_looks 39 = .ok (.iaload, 1) := by decide +kernel
theorem dX9_looks_40 : decode cX9_looks 40 = .ok (.aload_n 0, 1) := by decide +kernel
theorem dX9_looks_41 : decode cX9_looks 41 = .ok (.getfield 7, 3) := by decide +kernel
theorem dX9_looks_44 : decode cX9_looks 44 = .ok (.bipush 6, 2) := by decide +kernel
theorem dX9_looks_46 : decode cX9_looks 46 = .ok (.iaload, 1) := by decide +kernel
theorem dX9_looks_47 : decode cX9_looks 47 = .ok (.iadd, 1) := by decide +kernel
theorem dX9_looks_48 : decode cX9_looks 48 = .ok (.if_icmp .le 11, 3) := by decide +kernel
theorem dX9_looks_51 : decode cX9_looks 51 = .ok (.aload_n 0, 1) := by decide +kernel
theorem dX9_looks_52 : decode cX9_looks 52 = .ok (.getfield 7, 3) := by decide +kernel
theorem dX9_looks_55 : decode cX9_looks 55 = .ok (.bipush 14, 2) := by decide +kernel
theorem dX9_looks_57 : decode cX9_looks 57 = .ok (.iconst 0, 1) := by decide +kernel
theorem dX9_looks_58 : decode cX9_looks 58 = .ok (.iastore, 1) := by decide +kernel
theorem dX9_looks_59 : decode cX9_looks 59 = .ok (.return_, 1) := by decide +kernel
set_option maxRecDepth 20000 in
theorem ggX9_steps_X9_loadsAt : GoodIn wsX9_steps wsX9_loadsAt := goodIn_r _ [8, 1, 9, 10, 7, 11, 20, 21, 22, 23, 24, 25, 26, 27, 28, 29, 30, 31, 32, 33, 34, 35, 36, 37, 38] (by decide +kernel) (by decide +kernel)
set_option maxRecDepth 20000 in
theorem gX9_steps_X9_loadsAt : GoodIn wsX9_steps (wsV RX9 60 RX9 yX9_loadsAt wsX9_loadsAt) := goodIn_app (goodIn_of _ (by decide +kernel)) ggX9_steps_X9_loadsAt
set_option maxRecDepth 20000 in
theorem ggX9_steps_X9_pull : GoodIn wsX9_steps wsX9_pull := goodIn_r _ [15, 1, 20, 21, 22, 23, 24, 25, 26, 27, 28, 29, 30, 31, 32, 33, 34, 35, 36, 37, 38] (by decide +kernel) (by decide +kernel)
set_option maxRecDepth 20000 in
theorem gX9_steps_X9_pull : GoodIn wsX9_steps (wsV RX9 69 RX9 yX9_pull wsX9_pull) := goodIn_app (goodIn_of _ (by decide +kernel)) ggX9_steps_X9_pull
set_option maxRecDepth 20000 in
theorem ggX9_steps_X9_in : GoodIn wsX9_steps wsX9_in := goodIn_r _ [11] (by decide +kernel) (by decide +kernel)
set_option maxRecDepth 20000 in
theorem gX9_steps_X9_in : GoodIn wsX9_steps (va_wsS RX9 42 yX9_in wsX9_in) := goodIn_app (goodIn_of _ (by decide +kernel)) ggX9_steps_X9_in
set_option maxRecDepth 20000 in
theorem ggX9_steps_X9_looks : GoodIn wsX9_steps wsX9_looks := goodIn_r _ [19, 1, 20, 21, 22, 23, 24, 25, 26, 27, 28, 29, 30, 31, 32, 33, 34, 35, 36, 37, 38] (by decide +kernel) (by decide +kernel)
set_option maxRecDepth 20000 in
theorem gX9_steps_X9_looks : GoodIn wsX9_steps (wsV RX9 77 RX9 yX9_looks wsX9_looks) := goodIn_app (goodIn_of _ (by decide +kernel)) ggX9_steps_X9_looks
theorem dX9_steps_0 : decode cX9_steps 0 = .ok (.aload_n 0, 1) := by decide +kernel
theorem dX9_steps_1 : decode cX9_steps 1 = .ok (.aload_n 0, 1) := by decide +kernel
theorem dX9_steps_2 : decode cX9_steps 2 = .ok (.getfield 7, 3) := by decide +kernel
theorem dX9_steps_5 : decode cX9_steps 5 = .ok (.bipush 11, 2) := by decide +kernel
theorem dX9_steps_7 : decode cX9_steps 7 = .ok (.iaload, 1) := by decide +kernel
theorem dX9_steps_8 : decode cX9_steps 8 = .ok (.invokevirtual 60, 3) := by decide +kernel
theorem dX9_steps_11 : decode cX9_steps 11 = .ok (.aload_n 0, 1) := by decide +kernel
theorem dX9_steps_12 : decode cX9_steps 12 = .ok (.iload_n 2, 1) := by decide +kernel
theorem dX9_steps_13 : decode cX9_steps 13 = .ok (.invokevirtual 69, 3) := by decide +kernel
theorem dX9_steps_16 : decode cX9_steps 16 = .ok (.if_icmp .gt 24, 3) := by decide +kernel
theorem dX9_steps_19 : decode cX9_steps 19 = .ok (.aload_n 0, 1) := by decide +kernel
theorem dX9_steps_20 : decode cX9_steps 20 = .ok (.getfield 7, 3) := by decide +kernel
theorem dX9_steps_23 : decode cX9_steps 23 = .ok (.bipush 11, 2) := by decide +kernel
theorem dX9_steps_25 : decode cX9_steps 25 = .ok (.iaload, 1) := by decide +kernel
theorem dX9_steps_26 : decode cX9_steps 26 = .ok (.iload_n 1, 1) := by decide +kernel
theorem dX9_steps_27 : decode cX9_steps 27 = .ok (.iadd, 1) := by decide +kernel
theorem dX9_steps_28 : decode cX9_steps 28 = .ok (.sipush (-3000), 3) := by decide +kernel
theorem dX9_steps_31 : decode cX9_steps 31 = .ok (.sipush 3000, 3) := by decide +kernel
theorem dX9_steps_34 : decode cX9_steps 34 = .ok (.invokestatic 42, 3) := by decide +kernel
theorem dX9_steps_37 : decode cX9_steps 37 = .ok (.ifCond .ne 7, 3) := by decide +kernel
theorem dX9_steps_40 : decode cX9_steps 40 = .ok (.iconst 1, 1) := by decide +kernel
theorem dX9_steps_41 : decode cX9_steps 41 = .ok (.goto 4, 3) := by decide +kernel
theorem dX9_steps_44 : decode cX9_steps 44 = .ok (.iconst 0, 1) := by decide +kernel
theorem dX9_steps_45 : decode cX9_steps 45 = .ok (.istore_n 3, 1) := by decide +kernel
theorem dX9_steps_46 : decode cX9_steps 46 = .ok (.aload_n 0, 1) := by decide +kernel
theorem dX9_steps_47 : decode cX9_steps 47 = .ok (.getfield 7, 3) := by decide +kernel
theorem dX9_steps_50 : decode cX9_steps 50 = .ok (.bipush 10, 2) := by decide +kernel
theorem dX9_steps_52 : decode cX9_steps 52 = .ok (.dup2, 1) := by decide +kernel
theorem dX9_steps_53 : decode cX9_steps 53 = .ok (.iaload, 1) := by decide +kernel
theorem dX9_steps_54 : decode cX9_steps 54 = .ok (.iload_n 1, 1) := by decide +kernel
theorem dX9_steps_55 : decode cX9_steps 55 = .ok (.iadd, 1) := by decide +kernel
theorem dX9_steps_56 : decode cX9_steps 56 = .ok (.iastore, 1) := by decide +kernel
theorem dX9_steps_57 : decode cX9_steps 57 = .ok (.aload_n 0, 1) := by decide +kernel
theorem dX9_steps_58 : decode cX9_steps 58 = .ok (.getfield 7, 3) := by decide +kernel
theorem dX9_steps_61 : decode cX9_steps 61 = .ok (.bipush 11, 2) := by decide +kernel
theorem dX9_steps_63 : decode cX9_steps 63 = .ok (.dup2, 1) := by decide +kernel
theorem dX9_steps_64 : decode cX9_steps 64 = .ok (.iaload, 1) := by decide +kernel
theorem dX9_steps_65 : decode cX9_steps 65 = .ok (.iload_n 3, 1) := by decide +kernel
theorem dX9_steps_66 : decode cX9_steps 66 = .ok (.ifCond .eq 7, 3) := by decide +kernel
theorem dX9_steps_69 : decode cX9_steps 69 = .ok (.iconst 0, 1) := by decide +kernel
theorem dX9_steps_70 : decode cX9_steps 70 = .ok (.goto 4, 3) := by decide +kernel
theorem dX9_steps_73 : decode cX9_steps 73 = .ok (.iload_n 1, 1) := by decide +kernel
theorem dX9_steps_74 : decode cX9_steps 74 = .ok (.iadd, 1) := by decide +kernel
theorem dX9_steps_75 : decode cX9_steps 75 = .ok (.iastore, 1) := by decide +kernel
theorem dX9_steps_76 : decode cX9_steps 76 = .ok (.aload_n 0, 1) := by decide +kernel
theorem dX9_steps_77 : decode cX9_steps 77 = .ok (.getfield 7, 3) := by decide +kernel
theorem dX9_steps_80 : decode cX9_steps 80 = .ok (.bipush 15, 2) := by decide +kernel
theorem dX9_steps_82 : decode cX9_steps 82 = .ok (.dup2, 1) := by decide +kernel
theorem dX9_steps_83 : decode cX9_steps 83 = .ok (.iaload, 1) := by decide +kernel
theorem dX9_steps_84 : decode cX9_steps 84 = .ok (.iconst 1, 1) := by decide +kernel
theorem dX9_steps_85 : decode cX9_steps 85 = .ok (.iadd, 1) := by decide +kernel
theorem dX9_steps_86 : decode cX9_steps 86 = .ok (.iastore, 1) := by decide +kernel
theorem dX9_steps_87 : decode cX9_steps 87 = .ok (.aload_n 0, 1) := by decide +kernel
theorem dX9_steps_88 : decode cX9_steps 88 = .ok (.getfield 7, 3) := by decide +kernel
theorem dX9_steps_91 : decode cX9_steps 91 = .ok (.bipush 16, 2) := by decide +kernel
theorem dX9_steps_93 : decode cX9_steps 93 = .ok (.dup2, 1) := by decide +kernel
theorem dX9_steps_94 : decode cX9_steps 94 = .ok (.iaload, 1) := by decide +kernel
theorem dX9_steps_95 : decode cX9_steps 95 = .ok (.iload_n 3, 1) := by decide +kernel
theorem dX9_steps_96 : decode cX9_steps 96 = .ok (.ifCond .eq 7, 3) := by decide +kernel
theorem dX9_steps_99 : decode cX9_steps 99 = .ok (.iconst 1, 1) := by decide +kernel
theorem dX9_steps_100 : decode cX9_steps 100 = .ok (.goto 4, 3) := by decide +kernel
theorem dX9_steps_103 : decode cX9_steps 103 = .ok (.iconst 0, 1) := by decide +kernel
theorem dX9_steps_104 : decode cX9_steps 104 = .ok (.iadd, 1) := by decide +kernel
theorem dX9_steps_105 : decode cX9_steps 105 = .ok (.iastore, 1) := by decide +kernel
theorem dX9_steps_106 : decode cX9_steps 106 = .ok (.aload_n 0, 1) := by decide +kernel
theorem dX9_steps_107 : decode cX9_steps 107 = .ok (.getfield 7, 3) := by decide +kernel
theorem dX9_steps_110 : decode cX9_steps 110 = .ok (.bipush 17, 2) := by decide +kernel
theorem dX9_steps_112 : decode cX9_steps 112 = .ok (.aload_n 0, 1) := by decide +kernel
theorem dX9_steps_113 : decode cX9_steps 113 = .ok (.getfield 7, 3) := by decide +kernel
theorem dX9_steps_116 : decode cX9_steps 116 = .ok (.bipush 17, 2) := by decide +kernel
theorem dX9_steps_118 : decode cX9_steps 118 = .ok (.iaload, 1) := by decide +kernel
theorem dX9_steps_119 : decode cX9_steps 119 = .ok (.aload_n 0, 1) := by decide +kernel
theorem dX9_steps_120 : decode cX9_steps 120 = .ok (.getfield 25, 3) := by decide +kernel
theorem dX9_steps_123 : decode cX9_steps 123 = .ok (.iload_n 2, 1) := by decide +kernel
theorem dX9_steps_124 : decode cX9_steps 124 = .ok (.iaload, 1) := by decide +kernel
theorem dX9_steps_125 : decode cX9_steps 125 = .ok (.iadd, 1) := by decide +kernel
theorem dX9_steps_126 : decode cX9_steps 126 = .ok (.ldc 76, 2) := by decide +kernel
theorem dX9_steps_128 : decode cX9_steps 128 = .ok (.irem, 1) := by decide +kernel
theorem dX9_steps_129 : decode cX9_steps 129 = .ok (.iastore, 1) := by decide +kernel
theorem dX9_steps_130 : decode cX9_steps 130 = .ok (.aload_n 0, 1) := by decide +kernel
theorem dX9_steps_131 : decode cX9_steps 131 = .ok (.invokevirtual 77, 3) := by decide +kernel
theorem dX9_steps_134 : decode cX9_steps 134 = .ok (.iload_n 3, 1) := by decide +kernel
theorem dX9_steps_135 : decode cX9_steps 135 = .ok (.ireturn, 1) := by decide +kernel
set_option maxRecDepth 20000 in
theorem ggX9_canMove_X9_in : GoodIn wsX9_canMove wsX9_in := goodIn_r _ [5] (by decide +kernel) (by decide +kernel)
set_option maxRecDepth 20000 in
theorem gX9_canMove_X9_in : GoodIn wsX9_canMove (va_wsS RX9 42 yX9_in wsX9_in) := goodIn_app (goodIn_of _ (by decide +kernel)) ggX9_canMove_X9_in
theorem dX9_canMove_0 : decode cX9_canMove 0 = .ok (.iload_n 1, 1) := by decide +kernel
theorem dX9_canMove_1 : decode cX9_canMove 1 = .ok (.sipush (-4000), 3) := by decide +kernel
theorem dX9_canMove_4 : decode cX9_canMove 4 = .ok (.sipush 4000, 3) := by decide +kernel
theorem dX9_canMove_7 : decode cX9_canMove 7 = .ok (.invokestatic 42, 3) := by decide +kernel
theorem dX9_canMove_10 : decode cX9_canMove 10 = .ok (.ifCond .eq 38, 3) := by decide +kernel
theorem dX9_canMove_13 : decode cX9_canMove 13 = .ok (.aload_n 0, 1) := by decide +kernel
theorem dX9_canMove_14 : decode cX9_canMove 14 = .ok (.getfield 7, 3) := by decide +kernel
theorem dX9_canMove_17 : decode cX9_canMove 17 = .ok (.bipush 13, 2) := by decide +kernel
theorem dX9_canMove_19 : decode cX9_canMove 19 = .ok (.iaload, 1) := by decide +kernel
theorem dX9_canMove_20 : decode cX9_canMove 20 = .ok (.ifCond .eq 24, 3) := by decide +kernel
theorem dX9_canMove_23 : decode cX9_canMove 23 = .ok (.iload_n 1, 1) := by decide +kernel
theorem dX9_canMove_24 : decode cX9_canMove 24 = .ok (.aload_n 0, 1) := by decide +kernel
theorem dX9_canMove_25 : decode cX9_canMove 25 = .ok (.getfield 7, 3) := by decide +kernel
theorem dX9_canMove_28 : decode cX9_canMove 28 = .ok (.bipush 8, 2) := by decide +kernel
theorem dX9_canMove_30 : decode cX9_canMove 30 = .ok (.iaload, 1) := by decide +kernel
theorem dX9_canMove_31 : decode cX9_canMove 31 = .ok (.aload_n 0, 1) := by decide +kernel
theorem dX9_canMove_32 : decode cX9_canMove 32 = .ok (.getfield 7, 3) := by decide +kernel
theorem dX9_canMove_35 : decode cX9_canMove 35 = .ok (.bipush 9, 2) := by decide +kernel
theorem dX9_canMove_37 : decode cX9_canMove 37 = .ok (.iaload, 1) := by decide +kernel
theorem dX9_canMove_38 : decode cX9_canMove 38 = .ok (.invokestatic 42, 3) := by decide +kernel
theorem dX9_canMove_41 : decode cX9_canMove 41 = .ok (.ifCond .eq 7, 3) := by decide +kernel
theorem dX9_canMove_44 : decode cX9_canMove 44 = .ok (.iconst 1, 1) := by decide +kernel
theorem dX9_canMove_45 : decode cX9_canMove 45 = .ok (.goto 4, 3) := by decide +kernel
theorem dX9_canMove_48 : decode cX9_canMove 48 = .ok (.iconst 0, 1) := by decide +kernel
theorem dX9_canMove_49 : decode cX9_canMove 49 = .ok (.ireturn, 1) := by decide +kernel
set_option maxRecDepth 20000 in
theorem ggX9_goes_X9_indexOf : GoodIn wsX9_goes wsX9_indexOf := goodIn_r _ [11, 12, 33, 34, 35, 36, 37, 38, 39, 40, 41, 42, 43, 44, 45, 46, 47, 48, 49, 50, 51] (by decide +kernel) (by decide +kernel)
set_option maxRecDepth 20000 in
theorem gX9_goes_X9_indexOf : GoodIn wsX9_goes (wsV RX9 72 RX9 yX9_indexOf wsX9_indexOf) := goodIn_app (goodIn_of _ (by decide +kernel)) ggX9_goes_X9_indexOf
set_option maxRecDepth 20000 in
theorem ggX9_goes_X9_steps : GoodIn wsX9_goes wsX9_steps := goodIn_r _ [16, 1, 6, 17, 18, 19, 20, 10, 21, 22, 23, 24, 25, 26, 27, 28, 29, 30, 31, 32, 33, 34, 35, 36, 37, 38, 39, 40, 41, 42, 43, 44, 45, 46, 47, 48, 49, 50, 51] (by decide +kernel) (by decide +kernel)
set_option maxRecDepth 20000 in
theorem gX9_goes_X9_steps : GoodIn wsX9_goes (wsV RX9 89 RX9 yX9_steps wsX9_steps) := goodIn_app (goodIn_of _ (by decide +kernel)) ggX9_goes_X9_steps
theorem dX9_goes_0 : decode cX9_goes 0 = .ok (.iload_n 1, 1) := by decide +kernel
theorem dX9_goes_1 : decode cX9_goes 1 = .ok (.aload_n 0, 1) := by decide +kernel
theorem dX9_goes_2 : decode cX9_goes 2 = .ok (.getfield 7, 3) := by decide +kernel
theorem dX9_goes_5 : decode cX9_goes 5 = .ok (.bipush 10, 2) := by decide +kernel
theorem dX9_goes_7 : decode cX9_goes 7 = .ok (.iaload, 1) := by decide +kernel
theorem dX9_goes_8 : decode cX9_goes 8 = .ok (.isub, 1) := by decide +kernel
theorem dX9_goes_9 : decode cX9_goes 9 = .ok (.istore_n 2, 1) := by decide +kernel
theorem dX9_goes_10 : decode cX9_goes 10 = .ok (.iload_n 2, 1) := by decide +kernel
theorem dX9_goes_11 : decode cX9_goes 11 = .ok (.ifCond .ge 7, 3) := by decide +kernel
theorem dX9_goes_14 : decode cX9_goes 14 = .ok (.iconst (-1), 1) := by decide +kernel
theorem dX9_goes_15 : decode cX9_goes 15 = .ok (.goto 4, 3) := by decide +kernel
theorem dX9_goes_18 : decode cX9_goes 18 = .ok (.iconst 1, 1) := by decide +kernel
theorem dX9_goes_19 : decode cX9_goes 19 = .ok (.istore_n 3, 1) := by decide +kernel
theorem dX9_goes_20 : decode cX9_goes 20 = .ok (.iload_n 2, 1) := by decide +kernel
theorem dX9_goes_21 : decode cX9_goes 21 = .ok (.iload_n 3, 1) := by decide +kernel
theorem dX9_goes_22 : decode cX9_goes 22 = .ok (.imul, 1) := by decide +kernel
theorem dX9_goes_23 : decode cX9_goes 23 = .ok (.istore 4, 2) := by decide +kernel
theorem dX9_goes_25 : decode cX9_goes 25 = .ok (.aload_n 0, 1) := by decide +kernel
theorem dX9_goes_26 : decode cX9_goes 26 = .ok (.iconst 0, 1) := by decide +kernel
theorem dX9_goes_27 : decode cX9_goes 27 = .ok (.putfield 80, 3) := by decide +kernel
theorem dX9_goes_30 : decode cX9_goes 30 = .ok (.aload_n 0, 1) := by decide +kernel
theorem dX9_goes_31 : decode cX9_goes 31 = .ok (.ldc 59, 2) := by decide +kernel
theorem dX9_goes_33 : decode cX9_goes 33 = .ok (.putfield 83, 3) := by decide +kernel
theorem dX9_goes_36 : decode cX9_goes 36 = .ok (.aload_n 0, 1) := by decide +kernel
theorem dX9_goes_37 : decode cX9_goes 37 = .ok (.iconst 0, 1) := by decide +kernel
theorem dX9_goes_38 : decode cX9_goes 38 = .ok (.putfield 86, 3) := by decide +kernel
theorem dX9_goes_41 : decode cX9_goes 41 = .ok (.iconst 0, 1) := by decide +kernel
theorem dX9_goes_42 : decode cX9_goes 42 = .ok (.istore 5, 2) := by decide +kernel
theorem dX9_goes_44 : decode cX9_goes 44 = .ok (.iload 5, 2) := by decide +kernel
theorem dX9_goes_46 : decode cX9_goes 46 = .ok (.iload 4, 2) := by decide +kernel
theorem dX9_goes_48 : decode cX9_goes 48 = .ok (.if_icmp .ge 84, 3) := by decide +kernel
theorem dX9_goes_51 : decode cX9_goes 51 = .ok (.aload_n 0, 1) := by decide +kernel
theorem dX9_goes_52 : decode cX9_goes 52 = .ok (.iload 5, 2) := by decide +kernel
theorem dX9_goes_54 : decode cX9_goes 54 = .ok (.iload 4, 2) := by decide +kernel
theorem dX9_goes_56 : decode cX9_goes 56 = .ok (.invokevirtual 72, 3) := by decide +kernel
theorem dX9_goes_59 : decode cX9_goes 59 = .ok (.istore 6, 2) := by decide +kernel
theorem dX9_goes_61 : decode cX9_goes 61 = .ok (.aload_n 0, 1) := by decide +kernel
theorem dX9_goes_62 : decode cX9_goes 62 = .ok (.getfield 7, 3) := by decide +kernel
theorem dX9_goes_65 : decode cX9_goes 65 = .ok (.bipush 11, 2) := by decide +kernel
theorem dX9_goes_67 : decode cX9_goes 67 = .ok (.iaload, 1) := by decide +kernel
theorem dX9_goes_68 : decode cX9_goes 68 = .ok (.istore 7, 2) := by decide +kernel
theorem dX9_goes_70 : decode cX9_goes 70 = .ok (.aload_n 0, 1) := by decide +kernel
theorem dX9_goes_71 : decode cX9_goes 71 = .ok (.iload_n 3, 1) := by decide +kernel
theorem dX9_goes_72 : decode cX9_goes 72 = .ok (.iload 6, 2) := by decide +kernel
theorem dX9_goes_74 : decode cX9_goes 74 = .ok (.invokevirtual 89, 3) := by decide +kernel
theorem dX9_goes_77 : decode cX9_goes 77 = .ok (.ifCond .eq 33, 3) := by decide +kernel
theorem dX9_goes_80 : decode cX9_goes 80 = .ok (.aload_n 0, 1) := by decide +kernel
theorem dX9_goes_81 : decode cX9_goes 81 = .ok (.aload_n 0, 1) := by decide +kernel
theorem dX9_goes_82 : decode cX9_goes 82 = .ok (.getfield 80, 3) := by decide +kernel
theorem dX9_goes_85 : decode cX9_goes 85 = .ok (.ifCond .ne 8, 3) := by decide +kernel
theorem dX9_goes_88 : decode cX9_goes 88 = .ok (.iload 7, 2) := by decide +kernel
theorem dX9_goes_90 : decode cX9_goes 90 = .ok (.goto 7, 3) := by decide +kernel
theorem dX9_goes_93 : decode cX9_goes 93 = .ok (.aload_n 0, 1) := by decide +kernel
theorem dX9_goes_94 : decode cX9_goes 94 = .ok (.getfield 83, 3) := by decide +kernel
theorem dX9_goes_97 : decode cX9_goes 97 = .ok (.putfield 83, 3) := by decide +kernel
theorem dX9_goes_100 : decode cX9_goes 100 = .ok (.aload_n 0, 1) := by decide +kernel
theorem dX9_goes_101 : decode cX9_goes 101 = .ok (.dup, 1) := by decide +kernel
theorem dX9_goes_102 : decode cX9_goes 102 = .ok (.getfield 80, 3) := by decide +kernel
theorem dX9_goes_105 : decode cX9_goes 105 = .ok (.iconst 1, 1) := by decide +kernel
theorem dX9_goes_106 : decode cX9_goes 106 = .ok (.iadd, 1) := by decide +kernel
theorem dX9_goes_107 : decode cX9_goes 107 = .ok (.putfield 80, 3) := by decide +kernel
theorem dX9_goes_110 : decode cX9_goes 110 = .ok (.aload_n 0, 1) := by decide +kernel
theorem dX9_goes_111 : decode cX9_goes 111 = .ok (.dup, 1) := by decide +kernel
theorem dX9_goes_112 : decode cX9_goes 112 = .ok (.getfield 86, 3) := by decide +kernel
theorem dX9_goes_115 : decode cX9_goes 115 = .ok (.aload_n 0, 1) := by decide +kernel
theorem dX9_goes_116 : decode cX9_goes 116 = .ok (.getfield 25, 3) := by decide +kernel
theorem dX9_goes_119 : decode cX9_goes 119 = .ok (.iload 6, 2) := by decide +kernel
theorem dX9_goes_121 : decode cX9_goes 121 = .ok (.iaload, 1) := by decide +kernel
theorem dX9_goes_122 : decode cX9_goes 122 = .ok (.iadd, 1) := by decide +kernel
theorem dX9_goes_123 : decode cX9_goes 123 = .ok (.putfield 86, 3) := by decide +kernel
theorem dX9_goes_126 : decode cX9_goes 126 = .ok (.iinc 5 1, 3) := by decide +kernel
theorem dX9_goes_129 : decode cX9_goes 129 = .ok (.goto (-85), 3) := by decide +kernel
theorem dX9_goes_132 : decode cX9_goes 132 = .ok (.iload 4, 2) := by decide +kernel
theorem dX9_goes_134 : decode cX9_goes 134 = .ok (.ireturn, 1) := by decide +kernel
set_option maxRecDepth 20000 in
theorem ggX9_moves_X9_changes : GoodIn wsX9_moves wsX9_changes := goodIn_r _ [8, 9, 10, 11, 1, 49, 50, 51, 52, 53, 54, 55, 56, 57, 58, 59, 60, 61, 62, 63, 64, 65, 66, 67] (by decide +kernel) (by decide +kernel)
set_option maxRecDepth 20000 in
theorem gX9_moves_X9_changes : GoodIn wsX9_moves (wsV RX9 54 RX9 yX9_changes wsX9_changes) := goodIn_app (goodIn_of _ (by decide +kernel)) ggX9_moves_X9_changes
set_option maxRecDepth 20000 in
theorem ggX9_moves_X9_lays : GoodIn wsX9_moves wsX9_lays := goodIn_r _ [15, 16, 17, 1, 18, 49, 50, 51, 52, 53, 54, 55, 56, 57, 58, 59, 60, 61, 62, 63, 64, 65, 66, 67] (by decide +kernel) (by decide +kernel)
set_option maxRecDepth 20000 in
theorem gX9_moves_X9_lays : GoodIn wsX9_moves (wsV RX9 66 RX9 yX9_lays wsX9_lays) := goodIn_app (goodIn_of _ (by decide +kernel)) ggX9_moves_X9_lays
set_option maxRecDepth 20000 in
theorem ggX9_moves_X9_goes : GoodIn wsX9_moves wsX9_goes := goodIn_r _ [22, 1, 2, 23, 24, 3, 17, 25, 26, 27, 7, 28, 16, 29, 30, 31, 32, 33, 34, 35, 36, 37, 38, 39, 40, 41, 42, 43, 44, 45, 46, 47, 48, 49, 50, 51, 52, 53, 54, 55, 56, 57, 58, 59, 60, 61, 62, 63, 64, 65, 66, 67] (by decide +kernel) (by decide +kernel)
set_option maxRecDepth 20000 in
theorem gX9_moves_X9_goes : GoodIn wsX9_moves (wsV RX9 93 RX9 yX9_goes wsX9_goes) := goodIn_app (goodIn_of _ (by decide +kernel)) ggX9_moves_X9_goes
set_option maxRecDepth 20000 in
theorem ggX9_moves_X9_indexOf : GoodIn wsX9_moves wsX9_indexOf := goodIn_r _ [28, 16, 49, 50, 51, 52, 53, 54, 55, 56, 57, 58, 59, 60, 61, 62, 63, 64, 65, 66, 67] (by decide +kernel) (by decide +kernel)
set_option maxRecDepth 20000 in
theorem gX9_moves_X9_indexOf : GoodIn wsX9_moves (wsV RX9 72 RX9 yX9_indexOf wsX9_indexOf) := goodIn_app (goodIn_of _ (by decide +kernel)) ggX9_moves_X9_indexOf
theorem dX9_moves_0 : decode cX9_moves 0 = .ok (.aload_n 0, 1) := by decide +kernel
theorem dX9_moves_1 : decode cX9_moves 1 = .ok (.invokevirtual 54, 3) := by decide +kernel
theorem dX9_moves_4 : decode cX9_moves 4 = .ok (.aload_n 0, 1) := by decide +kernel
theorem dX9_moves_5 : decode cX9_moves 5 = .ok (.invokevirtual 66, 3) := by decide +kernel
theorem dX9_moves_8 : decode cX9_moves 8 = .ok (.aload_n 0, 1) := by decide +kernel
theorem dX9_moves_9 : decode cX9_moves 9 = .ok (.getfield 7, 3) := by decide +kernel
theorem dX9_moves_12 : decode cX9_moves 12 = .ok (.bipush 10, 2) := by decide +kernel
theorem dX9_moves_14 : decode cX9_moves 14 = .ok (.iaload, 1) := by decide +kernel
theorem dX9_moves_15 : decode cX9_moves 15 = .ok (.istore_n 2, 1) := by decide +kernel
theorem dX9_moves_16 : decode cX9_moves 16 = .ok (.aload_n 0, 1) := by decide +kernel
theorem dX9_moves_17 : decode cX9_moves 17 = .ok (.iload_n 1, 1) := by decide +kernel
theorem dX9_moves_18 : decode cX9_moves 18 = .ok (.invokevirtual 93, 3) := by decide +kernel
theorem dX9_moves_21 : decode cX9_moves 21 = .ok (.istore_n 3, 1) := by decide +kernel
theorem dX9_moves_22 : decode cX9_moves 22 = .ok (.bipush 24, 2) := by decide +kernel
theorem dX9_moves_24 : decode cX9_moves 24 = .ok (.istore 4, 2) := by decide +kernel
theorem dX9_moves_26 : decode cX9_moves 26 = .ok (.iload 4, 2) := by decide +kernel
theorem dX9_moves_28 : decode cX9_moves 28 = .ok (.iconst 5, 1) := by decide +kernel
theorem dX9_moves_29 : decode cX9_moves 29 = .ok (.if_icmp .lt 31, 3) := by decide +kernel
theorem dX9_moves_32 : decode cX9_moves 32 = .ok (.aload_n 0, 1) := by decide +kernel
theorem dX9_moves_33 : decode cX9_moves 33 = .ok (.getfield 7, 3) := by decide +kernel
theorem dX9_moves_36 : decode cX9_moves 36 = .ok (.bipush 38, 2) := by decide +kernel
theorem dX9_moves_38 : decode cX9_moves 38 = .ok (.iload 4, 2) := by decide +kernel
theorem dX9_moves_40 : decode cX9_moves 40 = .ok (.iadd, 1) := by decide +kernel
theorem dX9_moves_41 : decode cX9_moves 41 = .ok (.aload_n 0, 1) := by decide +kernel
theorem dX9_moves_42 : decode cX9_moves 42 = .ok (.getfield 7, 3) := by decide +kernel
theorem dX9_moves_45 : decode cX9_moves 45 = .ok (.bipush 38, 2) := by decide +kernel
theorem dX9_moves_47 : decode cX9_moves 47 = .ok (.iload 4, 2) := by decide +kernel
theorem dX9_moves_49 : decode cX9_moves 49 = .ok (.iadd, 1) := by decide +kernel
theorem dX9_moves_50 : decode cX9_moves 50 = .ok (.iconst 5, 1) := by decide +kernel
theorem dX9_moves_51 : decode cX9_moves 51 = .ok (.isub, 1) := by decide +kernel
theorem dX9_moves_52 : decode cX9_moves 52 = .ok (.iaload, 1) := by decide +kernel
theorem dX9_moves_53 : decode cX9_moves 53 = .ok (.iastore, 1) := by decide +kernel
theorem dX9_moves_54 : decode cX9_moves 54 = .ok (.iinc 4 (-1), 3) := by decide +kernel
theorem dX9_moves_57 : decode cX9_moves 57 = .ok (.goto (-31), 3) := by decide +kernel
theorem dX9_moves_60 : decode cX9_moves 60 = .ok (.aload_n 0, 1) := by decide +kernel
theorem dX9_moves_61 : decode cX9_moves 61 = .ok (.getfield 7, 3) := by decide +kernel
theorem dX9_moves_64 : decode cX9_moves 64 = .ok (.bipush 38, 2) := by decide +kernel
theorem dX9_moves_66 : decode cX9_moves 66 = .ok (.iload_n 2, 1) := by decide +kernel
theorem dX9_moves_67 : decode cX9_moves 67 = .ok (.iastore, 1) := by decide +kernel
theorem dX9_moves_68 : decode cX9_moves 68 = .ok (.aload_n 0, 1) := by decide +kernel
theorem dX9_moves_69 : decode cX9_moves 69 = .ok (.getfield 7, 3) := by decide +kernel
theorem dX9_moves_72 : decode cX9_moves 72 = .ok (.bipush 39, 2) := by decide +kernel
theorem dX9_moves_74 : decode cX9_moves 74 = .ok (.iload_n 1, 1) := by decide +kernel
theorem dX9_moves_75 : decode cX9_moves 75 = .ok (.iastore, 1) := by decide +kernel
theorem dX9_moves_76 : decode cX9_moves 76 = .ok (.aload_n 0, 1) := by decide +kernel
theorem dX9_moves_77 : decode cX9_moves 77 = .ok (.getfield 7, 3) := by decide +kernel
theorem dX9_moves_80 : decode cX9_moves 80 = .ok (.bipush 40, 2) := by decide +kernel
theorem dX9_moves_82 : decode cX9_moves 82 = .ok (.aload_n 0, 1) := by decide +kernel
theorem dX9_moves_83 : decode cX9_moves 83 = .ok (.getfield 80, 3) := by decide +kernel
theorem dX9_moves_86 : decode cX9_moves 86 = .ok (.iastore, 1) := by decide +kernel
theorem dX9_moves_87 : decode cX9_moves 87 = .ok (.aload_n 0, 1) := by decide +kernel
theorem dX9_moves_88 : decode cX9_moves 88 = .ok (.getfield 7, 3) := by decide +kernel
theorem dX9_moves_91 : decode cX9_moves 91 = .ok (.bipush 41, 2) := by decide +kernel
theorem dX9_moves_93 : decode cX9_moves 93 = .ok (.aload_n 0, 1) := by decide +kernel
theorem dX9_moves_94 : decode cX9_moves 94 = .ok (.getfield 86, 3) := by decide +kernel
theorem dX9_moves_97 : decode cX9_moves 97 = .ok (.iastore, 1) := by decide +kernel
theorem dX9_moves_98 : decode cX9_moves 98 = .ok (.aload_n 0, 1) := by decide +kernel
theorem dX9_moves_99 : decode cX9_moves 99 = .ok (.getfield 7, 3) := by decide +kernel
theorem dX9_moves_102 : decode cX9_moves 102 = .ok (.bipush 42, 2) := by decide +kernel
theorem dX9_moves_104 : decode cX9_moves 104 = .ok (.iload_n 3, 1) := by decide +kernel
theorem dX9_moves_105 : decode cX9_moves 105 = .ok (.ifCond .ne 7, 3) := by decide +kernel
theorem dX9_moves_108 : decode cX9_moves 108 = .ok (.iconst 0, 1) := by decide +kernel
theorem dX9_moves_109 : decode cX9_moves 109 = .ok (.goto 13, 3) := by decide +kernel
theorem dX9_moves_112 : decode cX9_moves 112 = .ok (.aload_n 0, 1) := by decide +kernel
theorem dX9_moves_113 : decode cX9_moves 113 = .ok (.iload_n 3, 1) := by decide +kernel
theorem dX9_moves_114 : decode cX9_moves 114 = .ok (.iconst 1, 1) := by decide +kernel
theorem dX9_moves_115 : decode cX9_moves 115 = .ok (.isub, 1) := by decide +kernel
theorem dX9_moves_116 : decode cX9_moves 116 = .ok (.iconst 2, 1) := by decide +kernel
theorem dX9_moves_117 : decode cX9_moves 117 = .ok (.idiv, 1) := by decide +kernel
theorem dX9_moves_118 : decode cX9_moves 118 = .ok (.iload_n 3, 1) := by decide +kernel
theorem dX9_moves_119 : decode cX9_moves 119 = .ok (.invokevirtual 72, 3) := by decide +kernel
theorem dX9_moves_122 : decode cX9_moves 122 = .ok (.iastore, 1) := by decide +kernel
theorem dX9_moves_123 : decode cX9_moves 123 = .ok (.aload_n 0, 1) := by decide +kernel
theorem dX9_moves_124 : decode cX9_moves 124 = .ok (.getfield 7, 3) := by decide +kernel
theorem dX9_moves_127 : decode cX9_moves 127 = .ok (.bipush 37, 2) := by decide +kernel
theorem dX9_moves_129 : decode cX9_moves 129 = .ok (.aload_n 0, 1) := by decide +kernel
theorem dX9_moves_130 : decode cX9_moves 130 = .ok (.getfield 7, 3) := by decide +kernel
theorem dX9_moves_133 : decode cX9_moves 133 = .ok (.bipush 37, 2) := by decide +kernel
theorem dX9_moves_135 : decode cX9_moves 135 = .ok (.iaload, 1) := by decide +kernel
theorem dX9_moves_136 : decode cX9_moves 136 = .ok (.iconst 5, 1) := by decide +kernel
theorem dX9_moves_137 : decode cX9_moves 137 = .ok (.if_icmp .ge 15, 3) := by decide +kernel
theorem dX9_moves_140 : decode cX9_moves 140 = .ok (.aload_n 0, 1) := by decide +kernel
theorem dX9_moves_141 : decode cX9_moves 141 = .ok (.getfield 7, 3) := by decide +kernel
theorem dX9_moves_144 : decode cX9_moves 144 = .ok (.bipush 37, 2) := by decide +kernel
theorem dX9_moves_146 : decode cX9_moves 146 = .ok (.iaload, 1) := by decide +kernel
theorem dX9_moves_147 : decode cX9_moves 147 = .ok (.iconst 1, 1) := by decide +kernel
theorem dX9_moves_148 : decode cX9_moves 148 = .ok (.iadd, 1) := by decide +kernel
theorem dX9_moves_149 : decode cX9_moves 149 = .ok (.goto 4, 3) := by decide +kernel
theorem dX9_moves_152 : decode cX9_moves 152 = .ok (.iconst 5, 1) := by decide +kernel
theorem dX9_moves_153 : decode cX9_moves 153 = .ok (.iastore, 1) := by decide +kernel
theorem dX9_moves_154 : decode cX9_moves 154 = .ok (.aload_n 0, 1) := by decide +kernel
theorem dX9_moves_155 : decode cX9_moves 155 = .ok (.getfield 80, 3) := by decide +kernel
theorem dX9_moves_158 : decode cX9_moves 158 = .ok (.ireturn, 1) := by decide +kernel
set_option maxRecDepth 20000 in
theorem ggX9_move_X9_in : GoodIn wsX9_move wsX9_in := goodIn_r _ [6] (by decide +kernel) (by decide +kernel)
set_option maxRecDepth 20000 in
theorem gX9_move_X9_in : GoodIn wsX9_move (va_wsS RX9 42 yX9_in wsX9_in) := goodIn_app (goodIn_of _ (by decide +kernel)) ggX9_move_X9_in
set_option maxRecDepth 20000 in
theorem ggX9_move_X9_canMove : GoodIn wsX9_move wsX9_canMove := goodIn_r _ [10, 11, 3, 4, 5, 6, 59, 60, 61, 62, 63, 64, 65, 66, 67, 68, 69, 70, 71, 72, 73, 74, 75, 76, 77] (by decide +kernel) (by decide +kernel)
set_option maxRecDepth 20000 in
theorem gX9_move_X9_canMove : GoodIn wsX9_move (wsV RX9 96 RX9 yX9_canMove wsX9_canMove) := goodIn_app (goodIn_of _ (by decide +kernel)) ggX9_move_X9_canMove
set_option maxRecDepth 20000 in
theorem ggX9_move_X9_moves : GoodIn wsX9_move wsX9_moves := goodIn_r _ [15, 11, 16, 17, 18, 19, 20, 5, 21, 22, 23, 24, 25, 26, 27, 28, 29, 30, 31, 32, 33, 34, 35, 36, 37, 38, 39, 40, 41, 42, 43, 44, 45, 46, 47, 48, 49, 50, 3, 4, 6, 51, 52, 53, 54, 55, 56, 57, 58, 59, 60, 61, 62, 63, 64, 65, 66, 67, 68, 69, 70, 71, 72, 73, 74, 75, 76, 77] (by decide +kernel) (by decide +kernel)
set_option maxRecDepth 20000 in
theorem gX9_move_X9_moves : GoodIn wsX9_move (wsV RX9 100 RX9 yX9_moves wsX9_moves) := goodIn_app (goodIn_of _ (by decide +kernel)) ggX9_move_X9_moves
theorem dX9_move_0 : decode cX9_move 0 = .ok (.iload_n 1, 1) := by decide +kernel
theorem dX9_move_1 : decode cX9_move 1 = .ok (.sipush (-4000), 3) := by decide +kernel
theorem dX9_move_4 : decode cX9_move 4 = .ok (.sipush 4000, 3) := by decide +kernel
theorem dX9_move_7 : decode cX9_move 7 = .ok (.invokestatic 42, 3) := by decide +kernel
theorem dX9_move_10 : decode cX9_move 10 = .ok (.ifCond .ne 6, 3) := by decide +kernel
theorem dX9_move_13 : decode cX9_move 13 = .ok (.ldc 53, 2) := by decide +kernel
theorem dX9_move_15 : decode cX9_move 15 = .ok (.ireturn, 1) := by decide +kernel
theorem dX9_move_16 : decode cX9_move 16 = .ok (.aload_n 0, 1) := by decide +kernel
theorem dX9_move_17 : decode cX9_move 17 = .ok (.iload_n 1, 1) := by decide +kernel
theorem dX9_move_18 : decode cX9_move 18 = .ok (.invokevirtual 96, 3) := by decide +kernel
theorem dX9_move_21 : decode cX9_move 21 = .ok (.ifCond .eq 11, 3) := by decide +kernel
theorem dX9_move_24 : decode cX9_move 24 = .ok (.aload_n 0, 1) := by decide +kernel
theorem dX9_move_25 : decode cX9_move 25 = .ok (.iload_n 1, 1) := by decide +kernel
theorem dX9_move_26 : decode cX9_move 26 = .ok (.invokevirtual 100, 3) := by decide +kernel
theorem dX9_move_29 : decode cX9_move 29 = .ok (.goto 5, 3) := by decide +kernel
theorem dX9_move_32 : decode cX9_move 32 = .ok (.ldc 58, 2) := by decide +kernel
theorem dX9_move_34 : decode cX9_move 34 = .ok (.ireturn, 1) := by decide +kernel
set_option maxRecDepth 20000 in
theorem ggX9_moveBy_X9_in : GoodIn wsX9_moveBy wsX9_in := goodIn_r _ [7] (by decide +kernel) (by decide +kernel)
set_option maxRecDepth 20000 in
theorem gX9_moveBy_X9_in : GoodIn wsX9_moveBy (va_wsS RX9 42 yX9_in wsX9_in) := goodIn_app (goodIn_of _ (by decide +kernel)) ggX9_moveBy_X9_in
set_option maxRecDepth 20000 in
theorem ggX9_moveBy_X9_canMove : GoodIn wsX9_moveBy wsX9_canMove := goodIn_r _ [11, 2, 4, 5, 6, 7, 59, 60, 61, 62, 63, 64, 65, 66, 67, 68, 69, 70, 71, 72, 73, 74, 75, 76, 77] (by decide +kernel) (by decide +kernel)
set_option maxRecDepth 20000 in
theorem gX9_moveBy_X9_canMove : GoodIn wsX9_moveBy (wsV RX9 96 RX9 yX9_canMove wsX9_canMove) := goodIn_app (goodIn_of _ (by decide +kernel)) ggX9_moveBy_X9_canMove
set_option maxRecDepth 20000 in
theorem ggX9_moveBy_X9_moves : GoodIn wsX9_moveBy wsX9_moves := goodIn_r _ [15, 2, 16, 17, 18, 19, 20, 6, 21, 22, 23, 24, 25, 26, 27, 28, 29, 30, 31, 32, 33, 34, 35, 36, 37, 38, 39, 40, 41, 42, 43, 44, 45, 46, 47, 48, 49, 50, 4, 5, 7, 51, 52, 53, 54, 55, 56, 57, 58, 59, 60, 61, 62, 63, 64, 65, 66, 67, 68, 69, 70, 71, 72, 73, 74, 75, 76, 77] (by decide +kernel) (by decide +kernel)
set_option maxRecDepth 20000 in
theorem gX9_moveBy_X9_moves : GoodIn wsX9_moveBy (wsV RX9 100 RX9 yX9_moves wsX9_moves) := goodIn_app (goodIn_of _ (by decide +kernel)) ggX9_moveBy_X9_moves
theorem dX9_moveBy_0 : decode cX9_moveBy 0 = .ok (.iload_n 1, 1) := by decide +kernel
theorem dX9_moveBy_1 : decode cX9_moveBy 1 = .ok (.sipush (-4000), 3) := by decide +kernel
theorem dX9_moveBy_4 : decode cX9_moveBy 4 = .ok (.sipush 4000, 3) := by decide +kernel
theorem dX9_moveBy_7 : decode cX9_moveBy 7 = .ok (.invokestatic 42, 3) := by decide +kernel
theorem dX9_moveBy_10 : decode cX9_moveBy 10 = .ok (.ifCond .ne 6, 3) := by decide +kernel
theorem dX9_moveBy_13 : decode cX9_moveBy 13 = .ok (.ldc 53, 2) := by decide +kernel
theorem dX9_moveBy_15 : decode cX9_moveBy 15 = .ok (.ireturn, 1) := by decide +kernel
theorem dX9_moveBy_16 : decode cX9_moveBy 16 = .ok (.aload_n 0, 1) := by decide +kernel
theorem dX9_moveBy_17 : decode cX9_moveBy 17 = .ok (.aload_n 0, 1) := by decide +kernel
theorem dX9_moveBy_18 : decode cX9_moveBy 18 = .ok (.getfield 7, 3) := by decide +kernel
theorem dX9_moveBy_21 : decode cX9_moveBy 21 = .ok (.bipush 10, 2) := by decide +kernel
theorem dX9_moveBy_23 : decode cX9_moveBy 23 = .ok (.iaload, 1) := by decide +kernel
theorem dX9_moveBy_24 : decode cX9_moveBy 24 = .ok (.iload_n 1, 1) := by decide +kernel
theorem dX9_moveBy_25 : decode cX9_moveBy 25 = .ok (.iadd, 1) := by decide +kernel
theorem dX9_moveBy_26 : decode cX9_moveBy 26 = .ok (.invokevirtual 96, 3) := by decide +kernel
theorem dX9_moveBy_29 : decode cX9_moveBy 29 = .ok (.ifCond .eq 19, 3) := by decide +kernel
theorem dX9_moveBy_32 : decode cX9_moveBy 32 = .ok (.aload_n 0, 1) := by decide +kernel
theorem dX9_moveBy_33 : decode cX9_moveBy 33 = .ok (.aload_n 0, 1) := by decide +kernel
theorem dX9_moveBy_34 : decode cX9_moveBy 34 = .ok (.getfield 7, 3) := by decide +kernel
theorem dX9_moveBy_37 : decode cX9_moveBy 37 = .ok (.bipush 10, 2) := by decide +kernel
theorem dX9_moveBy_39 : decode cX9_moveBy 39 = .ok (.iaload, 1) := by decide +kernel
theorem dX9_moveBy_40 : decode cX9_moveBy 40 = .ok (.iload_n 1, 1) := by decide +kernel
theorem dX9_moveBy_41 : decode cX9_moveBy 41 = .ok (.iadd, 1) := by decide +kernel
theorem dX9_moveBy_42 : decode cX9_moveBy 42 = .ok (.invokevirtual 100, 3) := by decide +kernel
theorem dX9_moveBy_45 : decode cX9_moveBy 45 = .ok (.goto 5, 3) := by decide +kernel
theorem dX9_moveBy_48 : decode cX9_moveBy 48 = .ok (.ldc 58, 2) := by decide +kernel
theorem dX9_moveBy_50 : decode cX9_moveBy 50 = .ok (.ireturn, 1) := by decide +kernel
set_option maxRecDepth 20000 in
theorem ggX9_creeps_X9_steps : GoodIn wsX9_creeps wsX9_steps := goodIn_r _ [8, 1, 9, 10, 11, 12, 13, 7, 14, 15, 16, 17, 18, 19, 20, 21, 22, 23, 24, 25, 26, 27, 28, 29, 30, 31, 32, 33, 34, 35, 36, 37, 38, 39, 40, 41, 42, 43, 44] (by decide +kernel) (by decide +kernel)
set_option maxRecDepth 20000 in
theorem gX9_creeps_X9_steps : GoodIn wsX9_creeps (wsV RX9 89 RX9 yX9_steps wsX9_steps) := goodIn_app (goodIn_of _ (by decide +kernel)) ggX9_creeps_X9_steps
theorem dX9_creeps_0 : decode cX9_creeps 0 = .ok (.iconst 0, 1) := by decide +kernel
theorem dX9_creeps_1 : decode cX9_creeps 1 = .ok (.istore_n 3, 1) := by decide +kernel
theorem dX9_creeps_2 : decode cX9_creeps 2 = .ok (.aload_n 0, 1) := by decide +kernel
theorem dX9_creeps_3 : decode cX9_creeps 3 = .ok (.getfield 7, 3) := by decide +kernel
theorem dX9_creeps_6 : decode cX9_creeps 6 = .ok (.bipush 14, 2) := by decide +kernel
theorem dX9_creeps_8 : decode cX9_creeps 8 = .ok (.iaload, 1) := by decide +kernel
theorem dX9_creeps_9 : decode cX9_creeps 9 = .ok (.iload_n 2, 1) := by decide +kernel
theorem dX9_creeps_10 : decode cX9_creeps 10 = .ok (.if_icmp .eq 42, 3) := by decide +kernel
theorem dX9_creeps_13 : decode cX9_creeps 13 = .ok (.iload_n 3, 1) := by decide +kernel
theorem dX9_creeps_14 : decode cX9_creeps 14 = .ok (.sipush 4000, 3) := by decide +kernel
theorem dX9_creeps_17 : decode cX9_creeps 17 = .ok (.if_icmp .ne 6, 3) := by decide +kernel
theorem dX9_creeps_20 : decode cX9_creeps 20 = .ok (.ldc 59, 2) := by decide +kernel
theorem dX9_creeps_22 : decode cX9_creeps 22 = .ok (.ireturn, 1) := by decide +kernel
theorem dX9_creeps_23 : decode cX9_creeps 23 = .ok (.aload_n 0, 1) := by decide +kernel
theorem dX9_creeps_24 : decode cX9_creeps 24 = .ok (.dup, 1) := by decide +kernel
theorem dX9_creeps_25 : decode cX9_creeps 25 = .ok (.getfield 80, 3) := by decide +kernel
theorem dX9_creeps_28 : decode cX9_creeps 28 = .ok (.aload_n 0, 1) := by decide +kernel
theorem dX9_creeps_29 : decode cX9_creeps 29 = .ok (.iload_n 1, 1) := by decide +kernel
theorem dX9_creeps_30 : decode cX9_creeps 30 = .ok (.iconst 0, 1) := by decide +kernel
theorem dX9_creeps_31 : decode cX9_creeps 31 = .ok (.invokevirtual 89, 3) := by decide +kernel
theorem dX9_creeps_34 : decode cX9_creeps 34 = .ok (.ifCond .eq 7, 3) := by decide +kernel
theorem dX9_creeps_37 : decode cX9_creeps 37 = .ok (.iconst 1, 1) := by decide +kernel
theorem dX9_creeps_38 : decode cX9_creeps 38 = .ok (.goto 4, 3) := by decide +kernel
theorem dX9_creeps_41 : decode cX9_creeps 41 = .ok (.iconst 0, 1) := by decide +kernel
theorem dX9_creeps_42 : decode cX9_creeps 42 = .ok (.iadd, 1) := by decide +kernel
theorem dX9_creeps_43 : decode cX9_creeps 43 = .ok (.putfield 80, 3) := by decide +kernel
theorem dX9_creeps_46 : decode cX9_creeps 46 = .ok (.iinc 3 1, 3) := by decide +kernel
theorem dX9_creeps_49 : decode cX9_creeps 49 = .ok (.goto (-47), 3) := by decide +kernel
theorem dX9_creeps_52 : decode cX9_creeps 52 = .ok (.iload_n 3, 1) := by decide +kernel
theorem dX9_creeps_53 : decode cX9_creeps 53 = .ok (.ireturn, 1) := by decide +kernel
set_option maxRecDepth 20000 in
theorem ggX9_runsDown_X9_steps : GoodIn wsX9_runsDown wsX9_steps := goodIn_r _ [9, 1, 10, 11, 12, 13, 14, 8, 15, 16, 17, 18, 19, 20, 21, 22, 23, 24, 25, 26, 27, 28, 29, 30, 31, 32, 33, 34, 35, 36, 37, 38, 39, 40, 41, 42, 43, 44, 45] (by decide +kernel) (by decide +kernel)
set_option maxRecDepth 20000 in
theorem gX9_runsDown_X9_steps : GoodIn wsX9_runsDown (wsV RX9 89 RX9 yX9_steps wsX9_steps) := goodIn_app (goodIn_of _ (by decide +kernel)) ggX9_runsDown_X9_steps
theorem dX9_runsDown_0 : decode cX9_runsDown 0 = .ok (.iconst 0, 1) := by decide +kernel
theorem dX9_runsDown_1 : decode cX9_runsDown 1 = .ok (.istore_n 1, 1) := by decide +kernel
theorem dX9_runsDown_2 : decode cX9_runsDown 2 = .ok (.aload_n 0, 1) := by decide +kernel
theorem dX9_runsDown_3 : decode cX9_runsDown 3 = .ok (.getfield 7, 3) := by decide +kernel
theorem dX9_runsDown_6 : decode cX9_runsDown 6 = .ok (.bipush 7, 2) := by decide +kernel
theorem dX9_runsDown_8 : decode cX9_runsDown 8 = .ok (.iaload, 1) := by decide +kernel
theorem dX9_runsDown_9 : decode cX9_runsDown 9 = .ok (.aload_n 0, 1) := by decide +kernel
theorem dX9_runsDown_10 : decode cX9_runsDown 10 = .ok (.getfield 63, 3) := by decide +kernel
theorem dX9_runsDown_13 : decode cX9_runsDown 13 = .ok (.if_icmp .ge 13, 3) := by decide +kernel
theorem dX9_runsDown_16 : decode cX9_runsDown 16 = .ok (.aload_n 0, 1) := by decide +kernel
theorem dX9_runsDown_17 : decode cX9_runsDown 17 = .ok (.getfield 7, 3) := by decide +kernel
theorem dX9_runsDown_20 : decode cX9_runsDown 20 = .ok (.bipush 7, 2) := by decide +kernel
theorem dX9_runsDown_22 : decode cX9_runsDown 22 = .ok (.iaload, 1) := by decide +kernel
theorem dX9_runsDown_23 : decode cX9_runsDown 23 = .ok (.goto 7, 3) := by decide +kernel
theorem dX9_runsDown_26 : decode cX9_runsDown 26 = .ok (.aload_n 0, 1) := by decide +kernel
theorem dX9_runsDown_27 : decode cX9_runsDown 27 = .ok (.getfield 63, 3) := by decide +kernel
theorem dX9_runsDown_30 : decode cX9_runsDown 30 = .ok (.istore_n 2, 1) := by decide +kernel
theorem dX9_runsDown_31 : decode cX9_runsDown 31 = .ok (.iconst (-1), 1) := by decide +kernel
theorem dX9_runsDown_32 : decode cX9_runsDown 32 = .ok (.istore_n 3, 1) := by decide +kernel
theorem dX9_runsDown_33 : decode cX9_runsDown 33 = .ok (.aload_n 0, 1) := by decide +kernel
theorem dX9_runsDown_34 : decode cX9_runsDown 34 = .ok (.getfield 7, 3) := by decide +kernel
theorem dX9_runsDown_37 : decode cX9_runsDown 37 = .ok (.bipush 14, 2) := by decide +kernel
theorem dX9_runsDown_39 : decode cX9_runsDown 39 = .ok (.iaload, 1) := by decide +kernel
theorem dX9_runsDown_40 : decode cX9_runsDown 40 = .ok (.ifCond .ne 55, 3) := by decide +kernel
theorem dX9_runsDown_43 : decode cX9_runsDown 43 = .ok (.iload_n 1, 1) := by decide +kernel
theorem dX9_runsDown_44 : decode cX9_runsDown 44 = .ok (.sipush 4000, 3) := by decide +kernel
theorem dX9_runsDown_47 : decode cX9_runsDown 47 = .ok (.if_icmp .ne 6, 3) := by decide +kernel
theorem dX9_runsDown_50 : decode cX9_runsDown 50 = .ok (.ldc 59, 2) := by decide +kernel
theorem dX9_runsDown_52 : decode cX9_runsDown 52 = .ok (.ireturn, 1) := by decide +kernel
theorem dX9_runsDown_53 : decode cX9_runsDown 53 = .ok (.iload_n 3, 1) := by decide +kernel
theorem dX9_runsDown_54 : decode cX9_runsDown 54 = .ok (.iload_n 2, 1) := by decide +kernel
theorem dX9_runsDown_55 : decode cX9_runsDown 55 = .ok (.if_icmp .ge 9, 3) := by decide +kernel
theorem dX9_runsDown_58 : decode cX9_runsDown 58 = .ok (.iload_n 3, 1) := by decide +kernel
theorem dX9_runsDown_59 : decode cX9_runsDown 59 = .ok (.iconst 1, 1) := by decide +kernel
theorem dX9_runsDown_60 : decode cX9_runsDown 60 = .ok (.iadd, 1) := by decide +kernel
theorem dX9_runsDown_61 : decode cX9_runsDown 61 = .ok (.goto 4, 3) := by decide +kernel
theorem dX9_runsDown_64 : decode cX9_runsDown 64 = .ok (.iload_n 2, 1) := by decide +kernel
theorem dX9_runsDown_65 : decode cX9_runsDown 65 = .ok (.istore_n 3, 1) := by decide +kernel
theorem dX9_runsDown_66 : decode cX9_runsDown 66 = .ok (.aload_n 0, 1) := by decide +kernel
theorem dX9_runsDown_67 : decode cX9_runsDown 67 = .ok (.dup, 1) := by decide +kernel
theorem dX9_runsDown_68 : decode cX9_runsDown 68 = .ok (.getfield 80, 3) := by decide +kernel
theorem dX9_runsDown_71 : decode cX9_runsDown 71 = .ok (.aload_n 0, 1) := by decide +kernel
theorem dX9_runsDown_72 : decode cX9_runsDown 72 = .ok (.iconst (-1), 1) := by decide +kernel
theorem dX9_runsDown_73 : decode cX9_runsDown 73 = .ok (.iload_n 3, 1) := by decide +kernel
theorem dX9_runsDown_74 : decode cX9_runsDown 74 = .ok (.invokevirtual 89, 3) := by decide +kernel
theorem dX9_runsDown_77 : decode cX9_runsDown 77 = .ok (.ifCond .eq 7, 3) := by decide +kernel
theorem dX9_runsDown_80 : decode cX9_runsDown 80 = .ok (.iconst 1, 1) := by decide +kernel
theorem dX9_runsDown_81 : decode cX9_runsDown 81 = .ok (.goto 4, 3) := by decide +kernel
theorem dX9_runsDown_84 : decode cX9_runsDown 84 = .ok (.iconst 0, 1) := by decide +kernel
theorem dX9_runsDown_85 : decode cX9_runsDown 85 = .ok (.iadd, 1) := by decide +kernel
theorem dX9_runsDown_86 : decode cX9_runsDown 86 = .ok (.putfield 80, 3) := by decide +kernel
theorem dX9_runsDown_89 : decode cX9_runsDown 89 = .ok (.iinc 1 1, 3) := by decide +kernel
theorem dX9_runsDown_92 : decode cX9_runsDown 92 = .ok (.goto (-59), 3) := by decide +kernel
theorem dX9_runsDown_95 : decode cX9_runsDown 95 = .ok (.iload_n 3, 1) := by decide +kernel
theorem dX9_runsDown_96 : decode cX9_runsDown 96 = .ok (.iconst 1, 1) := by decide +kernel
theorem dX9_runsDown_97 : decode cX9_runsDown 97 = .ok (.isub, 1) := by decide +kernel
theorem dX9_runsDown_98 : decode cX9_runsDown 98 = .ok (.istore 4, 2) := by decide +kernel
theorem dX9_runsDown_100 : decode cX9_runsDown 100 = .ok (.iload 4, 2) := by decide +kernel
theorem dX9_runsDown_102 : decode cX9_runsDown 102 = .ok (.ifCond .lt 36, 3) := by decide +kernel
theorem dX9_runsDown_105 : decode cX9_runsDown 105 = .ok (.aload_n 0, 1) := by decide +kernel
theorem dX9_runsDown_106 : decode cX9_runsDown 106 = .ok (.dup, 1) := by decide +kernel
theorem dX9_runsDown_107 : decode cX9_runsDown 107 = .ok (.getfield 80, 3) := by decide +kernel
theorem dX9_runsDown_110 : decode cX9_runsDown 110 = .ok (.aload_n 0, 1) := by decide +kernel
theorem dX9_runsDown_111 : decode cX9_runsDown 111 = .ok (.iconst (-1), 1) := by decide +kernel
theorem dX9_runsDown_112 : decode cX9_runsDown 112 = .ok (.iload 4, 2) := by decide +kernel
theorem dX9_runsDown_114 : decode cX9_runsDown 114 = .ok (.invokevirtual 89, 3) := by decide +kernel
theorem dX9_runsDown_117 : decode cX9_runsDown 117 = .ok (.ifCond .eq 7, 3) := by decide +kernel
theorem dX9_runsDown_120 : decode cX9_runsDown 120 = .ok (.iconst 1, 1) := by decide +kernel
theorem dX9_runsDown_121 : decode cX9_runsDown 121 = .ok (.goto 4, 3) := by decide +kernel
theorem dX9_runsDown_124 : decode cX9_runsDown 124 = .ok (.iconst 0, 1) := by decide +kernel
theorem dX9_runsDown_125 : decode cX9_runsDown 125 = .ok (.iadd, 1) := by decide +kernel
theorem dX9_runsDown_126 : decode cX9_runsDown 126 = .ok (.putfield 80, 3) := by decide +kernel
theorem dX9_runsDown_129 : decode cX9_runsDown 129 = .ok (.iinc 1 1, 3) := by decide +kernel
theorem dX9_runsDown_132 : decode cX9_runsDown 132 = .ok (.iinc 4 (-1), 3) := by decide +kernel
theorem dX9_runsDown_135 : decode cX9_runsDown 135 = .ok (.goto (-35), 3) := by decide +kernel
theorem dX9_runsDown_138 : decode cX9_runsDown 138 = .ok (.iload_n 1, 1) := by decide +kernel
theorem dX9_runsDown_139 : decode cX9_runsDown 139 = .ok (.ireturn, 1) := by decide +kernel
set_option maxRecDepth 20000 in
theorem ggX9_homes_X9_lays : GoodIn wsX9_homes wsX9_lays := goodIn_r _ [7, 8, 9, 2, 10, 41, 42, 43, 44, 45, 46, 47, 48, 49, 50, 51, 52, 53, 54, 55, 56, 57, 58, 59] (by decide +kernel) (by decide +kernel)
set_option maxRecDepth 20000 in
theorem gX9_homes_X9_lays : GoodIn wsX9_homes (wsV RX9 66 RX9 yX9_lays wsX9_lays) := goodIn_app (goodIn_of _ (by decide +kernel)) ggX9_homes_X9_lays
set_option maxRecDepth 20000 in
theorem ggX9_homes_X9_runsDown : GoodIn wsX9_homes wsX9_runsDown := goodIn_r _ [14, 2, 8, 15, 16, 17, 18, 19, 6, 20, 9, 21, 22, 23, 24, 25, 26, 27, 28, 29, 30, 31, 32, 33, 34, 35, 36, 41, 42, 43, 44, 45, 46, 47, 48, 49, 50, 51, 52, 53, 54, 55, 56, 57, 58, 59] (by decide +kernel) (by decide +kernel)
set_option maxRecDepth 20000 in
theorem gX9_homes_X9_runsDown : GoodIn wsX9_homes (wsV RX9 103 RX9 yX9_runsDown wsX9_runsDown) := goodIn_app (goodIn_of _ (by decide +kernel)) ggX9_homes_X9_runsDown
set_option maxRecDepth 20000 in
theorem ggX9_homes_X9_creeps : GoodIn wsX9_homes wsX9_creeps := goodIn_r _ [40, 2, 15, 16, 17, 18, 19, 6, 20, 9, 21, 22, 23, 24, 25, 26, 27, 28, 29, 30, 31, 32, 33, 34, 35, 36, 41, 42, 43, 44, 45, 46, 47, 48, 49, 50, 51, 52, 53, 54, 55, 56, 57, 58, 59] (by decide +kernel) (by decide +kernel)
set_option maxRecDepth 20000 in
theorem gX9_homes_X9_creeps : GoodIn wsX9_homes (wsV RX9 107 RX9 yX9_creeps wsX9_creeps) := goodIn_app (goodIn_of _ (by decide +kernel)) ggX9_homes_X9_creeps
theorem dX9_homes_0 : decode cX9_homes 0 = .ok (.aload_n 0, 1) := by decide +kernel
theorem dX9_homes_1 : decode cX9_homes 1 = .ok (.invokevirtual 66, 3) := by decide +kernel
theorem dX9_homes_4 : decode cX9_homes 4 = .ok (.aload_n 0, 1) := by decide +kernel
theorem dX9_homes_5 : decode cX9_homes 5 = .ok (.invokevirtual 103, 3) := by decide +kernel
theorem dX9_homes_8 : decode cX9_homes 8 = .ok (.istore_n 1, 1) := by decide +kernel
theorem dX9_homes_9 : decode cX9_homes 9 = .ok (.iload_n 1, 1) := by decide +kernel
theorem dX9_homes_10 : decode cX9_homes 10 = .ok (.ifCond .ge 7, 3) := by decide +kernel
theorem dX9_homes_13 : decode cX9_homes 13 = .ok (.iload_n 1, 1) := by decide +kernel
theorem dX9_homes_14 : decode cX9_homes 14 = .ok (.goto 9, 3) := by decide +kernel
theorem dX9_homes_17 : decode cX9_homes 17 = .ok (.aload_n 0, 1) := by decide +kernel
theorem dX9_homes_18 : decode cX9_homes 18 = .ok (.iconst 1, 1) := by decide +kernel
theorem dX9_homes_19 : decode cX9_homes 19 = .ok (.iconst 0, 1) := by decide +kernel
theorem dX9_homes_20 : decode cX9_homes 20 = .ok (.invokevirtual 107, 3) := by decide +kernel
theorem dX9_homes_23 : decode cX9_homes 23 = .ok (.istore_n 2, 1) := by decide +kernel
theorem dX9_homes_24 : decode cX9_homes 24 = .ok (.iload_n 2, 1) := by decide +kernel
theorem dX9_homes_25 : decode cX9_homes 25 = .ok (.ifCond .ge 7, 3) := by decide +kernel
theorem dX9_homes_28 : decode cX9_homes 28 = .ok (.iload_n 2, 1) := by decide +kernel
theorem dX9_homes_29 : decode cX9_homes 29 = .ok (.goto 9, 3) := by decide +kernel
theorem dX9_homes_32 : decode cX9_homes 32 = .ok (.aload_n 0, 1) := by decide +kernel
theorem dX9_homes_33 : decode cX9_homes 33 = .ok (.iconst (-1), 1) := by decide +kernel
theorem dX9_homes_34 : decode cX9_homes 34 = .ok (.iconst 1, 1) := by decide +kernel
theorem dX9_homes_35 : decode cX9_homes 35 = .ok (.invokevirtual 107, 3) := by decide +kernel
theorem dX9_homes_38 : decode cX9_homes 38 = .ok (.istore_n 3, 1) := by decide +kernel
theorem dX9_homes_39 : decode cX9_homes 39 = .ok (.iload_n 3, 1) := by decide +kernel
theorem dX9_homes_40 : decode cX9_homes 40 = .ok (.ifCond .ge 6, 3) := by decide +kernel
theorem dX9_homes_43 : decode cX9_homes 43 = .ok (.ldc 58, 2) := by decide +kernel
theorem dX9_homes_45 : decode cX9_homes 45 = .ok (.ireturn, 1) := by decide +kernel
theorem dX9_homes_46 : decode cX9_homes 46 = .ok (.aload_n 0, 1) := by decide +kernel
theorem dX9_homes_47 : decode cX9_homes 47 = .ok (.getfield 7, 3) := by decide +kernel
theorem dX9_homes_50 : decode cX9_homes 50 = .ok (.bipush 10, 2) := by decide +kernel
theorem dX9_homes_52 : decode cX9_homes 52 = .ok (.iconst 0, 1) := by decide +kernel
theorem dX9_homes_53 : decode cX9_homes 53 = .ok (.iastore, 1) := by decide +kernel
theorem dX9_homes_54 : decode cX9_homes 54 = .ok (.aload_n 0, 1) := by decide +kernel
theorem dX9_homes_55 : decode cX9_homes 55 = .ok (.getfield 7, 3) := by decide +kernel
theorem dX9_homes_58 : decode cX9_homes 58 = .ok (.bipush 13, 2) := by decide +kernel
theorem dX9_homes_60 : decode cX9_homes 60 = .ok (.iconst 1, 1) := by decide +kernel
theorem dX9_homes_61 : decode cX9_homes 61 = .ok (.iastore, 1) := by decide +kernel
theorem dX9_homes_62 : decode cX9_homes 62 = .ok (.aload_n 0, 1) := by decide +kernel
theorem dX9_homes_63 : decode cX9_homes 63 = .ok (.getfield 7, 3) := by decide +kernel
theorem dX9_homes_66 : decode cX9_homes 66 = .ok (.bipush 12, 2) := by decide +kernel
theorem dX9_homes_68 : decode cX9_homes 68 = .ok (.aload_n 0, 1) := by decide +kernel
theorem dX9_homes_69 : decode cX9_homes 69 = .ok (.getfield 7, 3) := by decide +kernel
theorem dX9_homes_72 : decode cX9_homes 72 = .ok (.bipush 11, 2) := by decide +kernel
theorem dX9_homes_74 : decode cX9_homes 74 = .ok (.iaload, 1) := by decide +kernel
theorem dX9_homes_75 : decode cX9_homes 75 = .ok (.ineg, 1) := by decide +kernel
theorem dX9_homes_76 : decode cX9_homes 76 = .ok (.iastore, 1) := by decide +kernel
theorem dX9_homes_77 : decode cX9_homes 77 = .ok (.iload_n 1, 1) := by decide +kernel
theorem dX9_homes_78 : decode cX9_homes 78 = .ok (.iload_n 2, 1) := by decide +kernel
theorem dX9_homes_79 : decode cX9_homes 79 = .ok (.iadd, 1) := by decide +kernel
theorem dX9_homes_80 : decode cX9_homes 80 = .ok (.iload_n 3, 1) := by decide +kernel
theorem dX9_homes_81 : decode cX9_homes 81 = .ok (.iadd, 1) := by decide +kernel
theorem dX9_homes_82 : decode cX9_homes 82 = .ok (.ireturn, 1) := by decide +kernel
set_option maxRecDepth 20000 in
theorem ggX9_home_X9_copies : GoodIn wsX9_home wsX9_copies := goodIn_r _ [6] (by decide +kernel) (by decide +kernel)
set_option maxRecDepth 20000 in
theorem gX9_home_X9_copies : GoodIn wsX9_home (va_wsS RX9 110 yX9_copies wsX9_copies) := goodIn_app (goodIn_of _ (by decide +kernel)) ggX9_home_X9_copies
set_option maxRecDepth 20000 in
theorem ggX9_home_X9_homes : GoodIn wsX9_home wsX9_homes := goodIn_r _ [10, 11, 1, 12, 13, 14, 5, 15, 16, 17, 18, 19, 20, 21, 22, 23, 24, 25, 26, 27, 28, 29, 30, 31, 32, 33, 34, 35, 36, 37, 38, 39, 40, 41, 42, 43, 44, 45, 46, 47, 48, 56, 57, 58, 59, 60, 61, 62, 63, 64, 65, 66, 67, 68, 69, 70, 71, 72, 73, 74] (by decide +kernel) (by decide +kernel)
set_option maxRecDepth 20000 in
theorem gX9_home_X9_homes : GoodIn wsX9_home (wsV RX9 114 RX9 yX9_homes wsX9_homes) := goodIn_app (goodIn_of _ (by decide +kernel)) ggX9_home_X9_homes
set_option maxRecDepth 20000 in
theorem ggX9_home_X9_changes : GoodIn wsX9_home wsX9_changes := goodIn_r _ [52, 53, 54, 55, 1, 56, 57, 58, 59, 60, 61, 62, 63, 64, 65, 66, 67, 68, 69, 70, 71, 72, 73, 74] (by decide +kernel) (by decide +kernel)
set_option maxRecDepth 20000 in
theorem gX9_home_X9_changes : GoodIn wsX9_home (wsV RX9 54 RX9 yX9_changes wsX9_changes) := goodIn_app (goodIn_of _ (by decide +kernel)) ggX9_home_X9_changes
theorem dX9_home_0 : decode cX9_home 0 = .ok (.aload_n 0, 1) := by decide +kernel
theorem dX9_home_1 : decode cX9_home 1 = .ok (.getfield 7, 3) := by decide +kernel
theorem dX9_home_4 : decode cX9_home 4 = .ok (.aload_n 0, 1) := by decide +kernel
theorem dX9_home_5 : decode cX9_home 5 = .ok (.getfield 19, 3) := by decide +kernel
theorem dX9_home_8 : decode cX9_home 8 = .ok (.invokestatic 110, 3) := by decide +kernel
theorem dX9_home_11 : decode cX9_home 11 = .ok (.aload_n 0, 1) := by decide +kernel
theorem dX9_home_12 : decode cX9_home 12 = .ok (.invokevirtual 114, 3) := by decide +kernel
theorem dX9_home_15 : decode cX9_home 15 = .ok (.istore_n 1, 1) := by decide +kernel
theorem dX9_home_16 : decode cX9_home 16 = .ok (.aload_n 0, 1) := by decide +kernel
theorem dX9_home_17 : decode cX9_home 17 = .ok (.getfield 19, 3) := by decide +kernel
theorem dX9_home_20 : decode cX9_home 20 = .ok (.aload_n 0, 1) := by decide +kernel
theorem dX9_home_21 : decode cX9_home 21 = .ok (.getfield 7, 3) := by decide +kernel
theorem dX9_home_24 : decode cX9_home 24 = .ok (.invokestatic 110, 3) := by decide +kernel
theorem dX9_home_27 : decode cX9_home 27 = .ok (.iload_n 1, 1) := by decide +kernel
theorem dX9_home_28 : decode cX9_home 28 = .ok (.ifCond .ge 5, 3) := by decide +kernel
theorem dX9_home_31 : decode cX9_home 31 = .ok (.iload_n 1, 1) := by decide +kernel
theorem dX9_home_32 : decode cX9_home 32 = .ok (.ireturn, 1) := by decide +kernel
theorem dX9_home_33 : decode cX9_home 33 = .ok (.aload_n 0, 1) := by decide +kernel
theorem dX9_home_34 : decode cX9_home 34 = .ok (.invokevirtual 54, 3) := by decide +kernel
theorem dX9_home_37 : decode cX9_home 37 = .ok (.aload_n 0, 1) := by decide +kernel
theorem dX9_home_38 : decode cX9_home 38 = .ok (.invokevirtual 114, 3) := by decide +kernel
theorem dX9_home_41 : decode cX9_home 41 = .ok (.ireturn, 1) := by decide +kernel
set_option maxRecDepth 20000 in
theorem ggX9_forget_X9_changes : GoodIn wsX9_forget wsX9_changes := goodIn_r _ [6, 7, 8, 9, 1, 10, 11, 12, 13, 14, 15, 16, 17, 18, 19, 20, 21, 22, 23, 24, 25, 26, 27, 28] (by decide +kernel) (by decide +kernel)
set_option maxRecDepth 20000 in
theorem gX9_forget_X9_changes : GoodIn wsX9_forget (wsV RX9 54 RX9 yX9_changes wsX9_changes) := goodIn_app (goodIn_of _ (by decide +kernel)) ggX9_forget_X9_changes
theorem dX9_forget_0 : decode cX9_forget 0 = .ok (.aload_n 0, 1) := by decide +kernel
theorem dX9_forget_1 : decode cX9_forget 1 = .ok (.invokevirtual 54, 3) := by decide +kernel
theorem dX9_forget_4 : decode cX9_forget 4 = .ok (.aload_n 0, 1) := by decide +kernel
theorem dX9_forget_5 : decode cX9_forget 5 = .ok (.getfield 7, 3) := by decide +kernel
theorem dX9_forget_8 : decode cX9_forget 8 = .ok (.bipush 37, 2) := by decide +kernel
theorem dX9_forget_10 : decode cX9_forget 10 = .ok (.iaload, 1) := by decide +kernel
theorem dX9_forget_11 : decode cX9_forget 11 = .ok (.istore_n 1, 1) := by decide +kernel
theorem dX9_forget_12 : decode cX9_forget 12 = .ok (.aload_n 0, 1) := by decide +kernel
theorem dX9_forget_13 : decode cX9_forget 13 = .ok (.getfield 7, 3) := by decide +kernel
theorem dX9_forget_16 : decode cX9_forget 16 = .ok (.bipush 37, 2) := by decide +kernel
theorem dX9_forget_18 : decode cX9_forget 18 = .ok (.iconst 0, 1) := by decide +kernel
theorem dX9_forget_19 : decode cX9_forget 19 = .ok (.iastore, 1) := by decide +kernel
theorem dX9_forget_20 : decode cX9_forget 20 = .ok (.iload_n 1, 1) := by decide +kernel
theorem dX9_forget_21 : decode cX9_forget 21 = .ok (.ireturn, 1) := by decide +kernel
theorem dX9_axis_0 : decode cX9_axis 0 = .ok (.iload_n 1, 1) := by decide +kernel
theorem dX9_axis_1 : decode cX9_axis 1 = .ok (.tableswitch 120 0 9 #[55, 63, 71, 95, 95, 95, 95, 95, 107, 107], 55) := by decide +kernel
theorem dX9_axis_56 : decode cX9_axis 56 = .ok (.aload_n 0, 1) := by decide +kernel
theorem dX9_axis_57 : decode cX9_axis 57 = .ok (.getfield 7, 3) := by decide +kernel
theorem dX9_axis_60 : decode cX9_axis 60 = .ok (.bipush 10, 2) := by decide +kernel
theorem dX9_axis_62 : decode cX9_axis 62 = .ok (.iaload, 1) := by decide +kernel
theorem dX9_axis_63 : decode cX9_axis 63 = .ok (.ireturn, 1) := by decide +kernel
theorem dX9_axis_64 : decode cX9_axis 64 = .ok (.aload_n 0, 1) := by decide +kernel
theorem dX9_axis_65 : decode cX9_axis 65 = .ok (.getfield 7, 3) := by decide +kernel
theorem dX9_axis_68 : decode cX9_axis 68 = .ok (.bipush 11, 2) := by decide +kernel
theorem dX9_axis_70 : decode cX9_axis 70 = .ok (.iaload, 1) := by decide +kernel
theorem dX9_axis_71 : decode cX9_axis 71 = .ok (.ireturn, 1) := by decide +kernel
theorem dX9_axis_72 : decode cX9_axis 72 = .ok (.aload_n 0, 1) := by decide +kernel
theorem dX9_axis_73 : decode cX9_axis 73 = .ok (.getfield 7, 3) := by decide +kernel
theorem dX9_axis_76 : decode cX9_axis 76 = .ok (.bipush 10, 2) := by decide +kernel
theorem dX9_axis_78 : decode cX9_axis 78 = .ok (.iaload, 1) := by decide +kernel
theorem dX9_axis_79 : decode cX9_axis 79 = .ok (.aload_n 0, 1) := by decide +kernel
theorem dX9_axis_80 : decode cX9_axis 80 = .ok (.getfield 7, 3) := by decide +kernel
theorem dX9_axis_83 : decode cX9_axis 83 = .ok (.bipush 11, 2) := by decide +kernel
theorem dX9_axis_85 : decode cX9_axis 85 = .ok (.iaload, 1) := by decide +kernel
theorem dX9_axis_86 : decode cX9_axis 86 = .ok (.isub, 1) := by decide +kernel
theorem dX9_axis_87 : decode cX9_axis 87 = .ok (.aload_n 0, 1) := by decide +kernel
theorem dX9_axis_88 : decode cX9_axis 88 = .ok (.getfield 7, 3) := by decide +kernel
theorem dX9_axis_91 : decode cX9_axis 91 = .ok (.bipush 12, 2) := by decide +kernel
theorem dX9_axis_93 : decode cX9_axis 93 = .ok (.iaload, 1) := by decide +kernel
theorem dX9_axis_94 : decode cX9_axis 94 = .ok (.isub, 1) := by decide +kernel
theorem dX9_axis_95 : decode cX9_axis 95 = .ok (.ireturn, 1) := by decide +kernel
theorem dX9_axis_96 : decode cX9_axis 96 = .ok (.aload_n 0, 1) := by decide +kernel
theorem dX9_axis_97 : decode cX9_axis 97 = .ok (.getfield 7, 3) := by decide +kernel
theorem dX9_axis_100 : decode cX9_axis 100 = .ok (.bipush 13, 2) := by decide +kernel
theorem dX9_axis_102 : decode cX9_axis 102 = .ok (.iload_n 1, 1) := by decide +kernel
theorem dX9_axis_103 : decode cX9_axis 103 = .ok (.iadd, 1) := by decide +kernel
theorem dX9_axis_104 : decode cX9_axis 104 = .ok (.iconst 3, 1) := by decide +kernel
theorem dX9_axis_105 : decode cX9_axis 105 = .ok (.isub, 1) := by decide +kernel
theorem dX9_axis_106 : decode cX9_axis 106 = .ok (.iaload, 1) := by decide +kernel
theorem dX9_axis_107 : decode cX9_axis 107 = .ok (.ireturn, 1) := by decide +kernel
theorem dX9_axis_108 : decode cX9_axis 108 = .ok (.aload_n 0, 1) := by decide +kernel
theorem dX9_axis_109 : decode cX9_axis 109 = .ok (.getfield 7, 3) := by decide +kernel
theorem dX9_axis_112 : decode cX9_axis 112 = .ok (.bipush 8, 2) := by decide +kernel
theorem dX9_axis_114 : decode cX9_axis 114 = .ok (.iload_n 1, 1) := by decide +kernel
theorem dX9_axis_115 : decode cX9_axis 115 = .ok (.iadd, 1) := by decide +kernel
theorem dX9_axis_116 : decode cX9_axis 116 = .ok (.bipush 8, 2) := by decide +kernel
theorem dX9_axis_118 : decode cX9_axis 118 = .ok (.isub, 1) := by decide +kernel
theorem dX9_axis_119 : decode cX9_axis 119 = .ok (.iaload, 1) := by decide +kernel
theorem dX9_axis_120 : decode cX9_axis 120 = .ok (.ireturn, 1) := by decide +kernel
theorem dX9_axis_121 : decode cX9_axis 121 = .ok (.ldc 53, 2) := by decide +kernel
theorem dX9_axis_123 : decode cX9_axis 123 = .ok (.ireturn, 1) := by decide +kernel
set_option maxRecDepth 20000 in
theorem ggX9_moveOf_X9_in : GoodIn wsX9_moveOf wsX9_in := goodIn_r _ [7] (by decide +kernel) (by decide +kernel)
set_option maxRecDepth 20000 in
theorem gX9_moveOf_X9_in : GoodIn wsX9_moveOf (va_wsS RX9 42 yX9_in wsX9_in) := goodIn_app (goodIn_of _ (by decide +kernel)) ggX9_moveOf_X9_in
