theorem dX9_moveOf_0 : decode cX9_moveOf 0 = .ok (.iload_n 1, 1) := by decide +kernel
theorem dX9_moveOf_1 : decode cX9_moveOf 1 = .ok (.ifCond .lt 12, 3) := by decide +kernel
theorem dX9_moveOf_4 : decode cX9_moveOf 4 = .ok (.iload_n 2, 1) := by decide +kernel
theorem dX9_moveOf_5 : decode cX9_moveOf 5 = .ok (.iconst 0, 1) := by decide +kernel
theorem dX9_moveOf_6 : decode cX9_moveOf 6 = .ok (.iconst 4, 1) := by decide +kernel
theorem dX9_moveOf_7 : decode cX9_moveOf 7 = .ok (.invokestatic 42, 3) := by decide +kernel
theorem dX9_moveOf_10 : decode cX9_moveOf 10 = .ok (.ifCond .ne 6, 3) := by decide +kernel
theorem dX9_moveOf_13 : decode cX9_moveOf 13 = .ok (.ldc 53, 2) := by decide +kernel
theorem dX9_moveOf_15 : decode cX9_moveOf 15 = .ok (.ireturn, 1) := by decide +kernel
theorem dX9_moveOf_16 : decode cX9_moveOf 16 = .ok (.iload_n 1, 1) := by decide +kernel
theorem dX9_moveOf_17 : decode cX9_moveOf 17 = .ok (.aload_n 0, 1) := by decide +kernel
theorem dX9_moveOf_18 : decode cX9_moveOf 18 = .ok (.getfield 7, 3) := by decide +kernel
theorem dX9_moveOf_21 : decode cX9_moveOf 21 = .ok (.bipush 37, 2) := by decide +kernel
theorem dX9_moveOf_23 : decode cX9_moveOf 23 = .ok (.iaload, 1) := by decide +kernel
theorem dX9_moveOf_24 : decode cX9_moveOf 24 = .ok (.if_icmp .lt 8, 3) := by decide +kernel
theorem dX9_moveOf_27 : decode cX9_moveOf 27 = .ok (.ldc 59, 2) := by decide +kernel
theorem dX9_moveOf_29 : decode cX9_moveOf 29 = .ok (.goto 16, 3) := by decide +kernel
theorem dX9_moveOf_32 : decode cX9_moveOf 32 = .ok (.aload_n 0, 1) := by decide +kernel
theorem dX9_moveOf_33 : decode cX9_moveOf 33 = .ok (.getfield 7, 3) := by decide +kernel
theorem dX9_moveOf_36 : decode cX9_moveOf 36 = .ok (.bipush 38, 2) := by decide +kernel
theorem dX9_moveOf_38 : decode cX9_moveOf 38 = .ok (.iconst 5, 1) := by decide +kernel
theorem dX9_moveOf_39 : decode cX9_moveOf 39 = .ok (.iload_n 1, 1) := by decide +kernel
theorem dX9_moveOf_40 : decode cX9_moveOf 40 = .ok (.imul, 1) := by decide +kernel
theorem dX9_moveOf_41 : decode cX9_moveOf 41 = .ok (.iadd, 1) := by decide +kernel
theorem dX9_moveOf_42 : decode cX9_moveOf 42 = .ok (.iload_n 2, 1) := by decide +kernel
theorem dX9_moveOf_43 : decode cX9_moveOf 43 = .ok (.iadd, 1) := by decide +kernel
theorem dX9_moveOf_44 : decode cX9_moveOf 44 = .ok (.iaload, 1) := by decide +kernel
theorem dX9_moveOf_45 : decode cX9_moveOf 45 = .ok (.ireturn, 1) := by decide +kernel
set_option maxRecDepth 20000 in
theorem ggX9_count_X9_in : GoodIn wsX9_count wsX9_in := goodIn_r _ [8] (by decide +kernel) (by decide +kernel)
set_option maxRecDepth 20000 in
theorem gX9_count_X9_in : GoodIn wsX9_count (va_wsS RX9 42 yX9_in wsX9_in) := goodIn_app (goodIn_of _ (by decide +kernel)) ggX9_count_X9_in
theorem dX9_count_0 : decode cX9_count 0 = .ok (.iload_n 1, 1) := by decide +kernel
theorem dX9_count_1 : decode cX9_count 1 = .ok (.tableswitch 57 0 3 #[31, 39, 47, 52], 31) := by decide +kernel
theorem dX9_count_32 : decode cX9_count 32 = .ok (.aload_n 0, 1) := by decide +kernel
theorem dX9_count_33 : decode cX9_count 33 = .ok (.getfield 7, 3) := by decide +kernel
theorem dX9_count_36 : decode cX9_count 36 = .ok (.bipush 18, 2) := by decide +kernel
theorem dX9_count_38 : decode cX9_count 38 = .ok (.iaload, 1) := by decide +kernel
theorem dX9_count_39 : decode cX9_count 39 = .ok (.ireturn, 1) := by decide +kernel
theorem dX9_count_40 : decode cX9_count 40 = .ok (.aload_n 0, 1) := by decide +kernel
theorem dX9_count_41 : decode cX9_count 41 = .ok (.getfield 7, 3) := by decide +kernel
theorem dX9_count_44 : decode cX9_count 44 = .ok (.bipush 37, 2) := by decide +kernel
theorem dX9_count_46 : decode cX9_count 46 = .ok (.iaload, 1) := by decide +kernel
theorem dX9_count_47 : decode cX9_count 47 = .ok (.ireturn, 1) := by decide +kernel
theorem dX9_count_48 : decode cX9_count 48 = .ok (.aload_n 0, 1) := by decide +kernel
theorem dX9_count_49 : decode cX9_count 49 = .ok (.getfield 38, 3) := by decide +kernel
theorem dX9_count_52 : decode cX9_count 52 = .ok (.ireturn, 1) := by decide +kernel
theorem dX9_count_53 : decode cX9_count 53 = .ok (.aload_n 0, 1) := by decide +kernel
theorem dX9_count_54 : decode cX9_count 54 = .ok (.getfield 117, 3) := by decide +kernel
theorem dX9_count_57 : decode cX9_count 57 = .ok (.ireturn, 1) := by decide +kernel
theorem dX9_count_58 : decode cX9_count 58 = .ok (.iload_n 1, 1) := by decide +kernel
theorem dX9_count_59 : decode cX9_count 59 = .ok (.bipush 10, 2) := by decide +kernel
theorem dX9_count_61 : decode cX9_count 61 = .ok (.bipush 17, 2) := by decide +kernel
theorem dX9_count_63 : decode cX9_count 63 = .ok (.invokestatic 42, 3) := by decide +kernel
theorem dX9_count_66 : decode cX9_count 66 = .ok (.ifCond .eq 15, 3) := by decide +kernel
theorem dX9_count_69 : decode cX9_count 69 = .ok (.aload_n 0, 1) := by decide +kernel
theorem dX9_count_70 : decode cX9_count 70 = .ok (.getfield 7, 3) := by decide +kernel
theorem dX9_count_73 : decode cX9_count 73 = .ok (.iload_n 1, 1) := by decide +kernel
theorem dX9_count_74 : decode cX9_count 74 = .ok (.bipush 10, 2) := by decide +kernel
theorem dX9_count_76 : decode cX9_count 76 = .ok (.isub, 1) := by decide +kernel
theorem dX9_count_77 : decode cX9_count 77 = .ok (.iaload, 1) := by decide +kernel
theorem dX9_count_78 : decode cX9_count 78 = .ok (.goto 5, 3) := by decide +kernel
theorem dX9_count_81 : decode cX9_count 81 = .ok (.ldc 53, 2) := by decide +kernel
theorem dX9_count_83 : decode cX9_count 83 = .ok (.ireturn, 1) := by decide +kernel
set_option maxRecDepth 20000 in
theorem ggX9_tries_X9_copies : GoodIn wsX9_tries wsX9_copies := goodIn_r _ [7] (by decide +kernel) (by decide +kernel)
set_option maxRecDepth 20000 in
theorem gX9_tries_X9_copies : GoodIn wsX9_tries (va_wsS RX9 110 yX9_copies wsX9_copies) := goodIn_app (goodIn_of _ (by decide +kernel)) ggX9_tries_X9_copies
set_option maxRecDepth 20000 in
theorem ggX9_tries_X9_lays : GoodIn wsX9_tries wsX9_lays := goodIn_r _ [11, 12, 13, 1, 14, 46, 47, 48, 49, 50, 51, 52, 53, 54, 55, 56, 57, 58, 59, 60, 61, 62, 63, 64] (by decide +kernel) (by decide +kernel)
set_option maxRecDepth 20000 in
theorem gX9_tries_X9_lays : GoodIn wsX9_tries (wsV RX9 66 RX9 yX9_lays wsX9_lays) := goodIn_app (goodIn_of _ (by decide +kernel)) ggX9_tries_X9_lays
set_option maxRecDepth 20000 in
theorem ggX9_tries_X9_goes : GoodIn wsX9_tries wsX9_goes := goodIn_r _ [18, 1, 3, 19, 20, 21, 13, 22, 23, 24, 6, 25, 12, 26, 27, 28, 29, 30, 31, 32, 33, 34, 35, 36, 37, 38, 39, 40, 41, 42, 43, 44, 45, 46, 47, 48, 49, 50, 51, 52, 53, 54, 55, 56, 57, 58, 59, 60, 61, 62, 63, 64] (by decide +kernel) (by decide +kernel)
set_option maxRecDepth 20000 in
theorem gX9_tries_X9_goes : GoodIn wsX9_tries (wsV RX9 93 RX9 yX9_goes wsX9_goes) := goodIn_app (goodIn_of _ (by decide +kernel)) ggX9_tries_X9_goes
theorem dX9_tries_0 : decode cX9_tries 0 = .ok (.aload_n 0, 1) := by decide +kernel
theorem dX9_tries_1 : decode cX9_tries 1 = .ok (.getfield 7, 3) := by decide +kernel
theorem dX9_tries_4 : decode cX9_tries 4 = .ok (.aload_n 0, 1) := by decide +kernel
theorem dX9_tries_5 : decode cX9_tries 5 = .ok (.getfield 19, 3) := by decide +kernel
theorem dX9_tries_8 : decode cX9_tries 8 = .ok (.invokestatic 110, 3) := by decide +kernel
theorem dX9_tries_11 : decode cX9_tries 11 = .ok (.aload_n 0, 1) := by decide +kernel
theorem dX9_tries_12 : decode cX9_tries 12 = .ok (.getfield 7, 3) := by decide +kernel
theorem dX9_tries_15 : decode cX9_tries 15 = .ok (.iconst 2, 1) := by decide +kernel
theorem dX9_tries_16 : decode cX9_tries 16 = .ok (.iload_n 2, 1) := by decide +kernel
theorem dX9_tries_17 : decode cX9_tries 17 = .ok (.iastore, 1) := by decide +kernel
theorem dX9_tries_18 : decode cX9_tries 18 = .ok (.aload_n 0, 1) := by decide +kernel
theorem dX9_tries_19 : decode cX9_tries 19 = .ok (.invokevirtual 66, 3) := by decide +kernel
theorem dX9_tries_22 : decode cX9_tries 22 = .ok (.aload_n 0, 1) := by decide +kernel
theorem dX9_tries_23 : decode cX9_tries 23 = .ok (.iload_n 1, 1) := by decide +kernel
theorem dX9_tries_24 : decode cX9_tries 24 = .ok (.invokevirtual 93, 3) := by decide +kernel
theorem dX9_tries_27 : decode cX9_tries 27 = .ok (.istore_n 3, 1) := by decide +kernel
theorem dX9_tries_28 : decode cX9_tries 28 = .ok (.aload_n 0, 1) := by decide +kernel
theorem dX9_tries_29 : decode cX9_tries 29 = .ok (.getfield 19, 3) := by decide +kernel
theorem dX9_tries_32 : decode cX9_tries 32 = .ok (.aload_n 0, 1) := by decide +kernel
theorem dX9_tries_33 : decode cX9_tries 33 = .ok (.getfield 7, 3) := by decide +kernel
theorem dX9_tries_36 : decode cX9_tries 36 = .ok (.invokestatic 110, 3) := by decide +kernel
theorem dX9_tries_39 : decode cX9_tries 39 = .ok (.iload_n 3, 1) := by decide +kernel
theorem dX9_tries_40 : decode cX9_tries 40 = .ok (.ifCond .ne 7, 3) := by decide +kernel
theorem dX9_tries_43 : decode cX9_tries 43 = .ok (.iconst 0, 1) := by decide +kernel
theorem dX9_tries_44 : decode cX9_tries 44 = .ok (.goto 7, 3) := by decide +kernel
theorem dX9_tries_47 : decode cX9_tries 47 = .ok (.aload_n 0, 1) := by decide +kernel
theorem dX9_tries_48 : decode cX9_tries 48 = .ok (.getfield 80, 3) := by decide +kernel
theorem dX9_tries_51 : decode cX9_tries 51 = .ok (.ireturn, 1) := by decide +kernel
set_option maxRecDepth 20000 in
theorem ggX9_wouldMiss_X9_in : GoodIn wsX9_wouldMiss wsX9_in := goodIn_r _ [7] (by decide +kernel) (by decide +kernel)
set_option maxRecDepth 20000 in
theorem gX9_wouldMiss_X9_in : GoodIn wsX9_wouldMiss (va_wsS RX9 42 yX9_in wsX9_in) := goodIn_app (goodIn_of _ (by decide +kernel)) ggX9_wouldMiss_X9_in
set_option maxRecDepth 20000 in
theorem ggX9_wouldMiss_X9_canMove : GoodIn wsX9_wouldMiss wsX9_canMove := goodIn_r _ [11, 2, 4, 5, 6, 7, 56, 57, 58, 59, 60, 61, 62, 63, 64, 65, 66, 67, 68, 69, 70, 71, 72, 73, 74] (by decide +kernel) (by decide +kernel)
set_option maxRecDepth 20000 in
theorem gX9_wouldMiss_X9_canMove : GoodIn wsX9_wouldMiss (wsV RX9 96 RX9 yX9_canMove wsX9_canMove) := goodIn_app (goodIn_of _ (by decide +kernel)) ggX9_wouldMiss_X9_canMove
set_option maxRecDepth 20000 in
theorem ggX9_wouldMiss_X9_tries : GoodIn wsX9_wouldMiss wsX9_tries := goodIn_r _ [15, 2, 16, 17, 18, 19, 6, 20, 21, 22, 23, 24, 25, 26, 27, 28, 29, 30, 31, 32, 33, 34, 35, 36, 37, 38, 39, 40, 41, 42, 43, 44, 45, 46, 47, 4, 5, 7, 48, 49, 50, 51, 52, 53, 54, 55, 56, 57, 58, 59, 60, 61, 62, 63, 64, 65, 66, 67, 68, 69, 70, 71, 72, 73, 74] (by decide +kernel) (by decide +kernel)
set_option maxRecDepth 20000 in
theorem gX9_wouldMiss_X9_tries : GoodIn wsX9_wouldMiss (wsV RX9 120 RX9 yX9_tries wsX9_tries) := goodIn_app (goodIn_of _ (by decide +kernel)) ggX9_wouldMiss_X9_tries
theorem dX9_wouldMiss_0 : decode cX9_wouldMiss 0 = .ok (.iload_n 1, 1) := by decide +kernel
theorem dX9_wouldMiss_1 : decode cX9_wouldMiss 1 = .ok (.sipush (-4000), 3) := by decide +kernel
theorem dX9_wouldMiss_4 : decode cX9_wouldMiss 4 = .ok (.sipush 4000, 3) := by decide +kernel
theorem dX9_wouldMiss_7 : decode cX9_wouldMiss 7 = .ok (.invokestatic 42, 3) := by decide +kernel
theorem dX9_wouldMiss_10 : decode cX9_wouldMiss 10 = .ok (.ifCond .ne 6, 3) := by decide +kernel
theorem dX9_wouldMiss_13 : decode cX9_wouldMiss 13 = .ok (.ldc 53, 2) := by decide +kernel
theorem dX9_wouldMiss_15 : decode cX9_wouldMiss 15 = .ok (.ireturn, 1) := by decide +kernel
theorem dX9_wouldMiss_16 : decode cX9_wouldMiss 16 = .ok (.aload_n 0, 1) := by decide +kernel
theorem dX9_wouldMiss_17 : decode cX9_wouldMiss 17 = .ok (.iload_n 1, 1) := by decide +kernel
theorem dX9_wouldMiss_18 : decode cX9_wouldMiss 18 = .ok (.invokevirtual 96, 3) := by decide +kernel
theorem dX9_wouldMiss_21 : decode cX9_wouldMiss 21 = .ok (.ifCond .eq 17, 3) := by decide +kernel
theorem dX9_wouldMiss_24 : decode cX9_wouldMiss 24 = .ok (.aload_n 0, 1) := by decide +kernel
theorem dX9_wouldMiss_25 : decode cX9_wouldMiss 25 = .ok (.iload_n 1, 1) := by decide +kernel
theorem dX9_wouldMiss_26 : decode cX9_wouldMiss 26 = .ok (.aload_n 0, 1) := by decide +kernel
theorem dX9_wouldMiss_27 : decode cX9_wouldMiss 27 = .ok (.getfield 7, 3) := by decide +kernel
theorem dX9_wouldMiss_30 : decode cX9_wouldMiss 30 = .ok (.iconst 2, 1) := by decide +kernel
theorem dX9_wouldMiss_31 : decode cX9_wouldMiss 31 = .ok (.iaload, 1) := by decide +kernel
theorem dX9_wouldMiss_32 : decode cX9_wouldMiss 32 = .ok (.invokevirtual 120, 3) := by decide +kernel
theorem dX9_wouldMiss_35 : decode cX9_wouldMiss 35 = .ok (.goto 5, 3) := by decide +kernel
theorem dX9_wouldMiss_38 : decode cX9_wouldMiss 38 = .ok (.ldc 58, 2) := by decide +kernel
theorem dX9_wouldMiss_40 : decode cX9_wouldMiss 40 = .ok (.ireturn, 1) := by decide +kernel
set_option maxRecDepth 20000 in
theorem ggX9_safe_X9_in : GoodIn wsX9_safe wsX9_in := goodIn_r _ [8] (by decide +kernel) (by decide +kernel)
set_option maxRecDepth 20000 in
theorem gX9_safe_X9_in : GoodIn wsX9_safe (va_wsS RX9 42 yX9_in wsX9_in) := goodIn_app (goodIn_of _ (by decide +kernel)) ggX9_safe_X9_in
set_option maxRecDepth 20000 in
theorem ggX9_safe_X9_canMove : GoodIn wsX9_safe wsX9_canMove := goodIn_r _ [12, 3, 5, 6, 7, 8, 56, 57, 58, 59, 60, 61, 62, 63, 64, 65, 66, 67, 68, 69, 70, 71, 72, 73, 74] (by decide +kernel) (by decide +kernel)
set_option maxRecDepth 20000 in
theorem gX9_safe_X9_canMove : GoodIn wsX9_safe (wsV RX9 96 RX9 yX9_canMove wsX9_canMove) := goodIn_app (goodIn_of _ (by decide +kernel)) ggX9_safe_X9_canMove
set_option maxRecDepth 20000 in
theorem ggX9_safe_X9_tries : GoodIn wsX9_safe wsX9_tries := goodIn_r _ [16, 3, 17, 18, 19, 20, 7, 21, 22, 23, 24, 25, 26, 27, 28, 29, 30, 31, 32, 4, 33, 34, 35, 36, 37, 38, 39, 40, 41, 42, 43, 44, 45, 46, 47, 5, 6, 8, 48, 49, 50, 51, 52, 53, 54, 55, 56, 57, 58, 59, 60, 61, 62, 63, 64, 65, 66, 67, 68, 69, 70, 71, 72, 73, 74] (by decide +kernel) (by decide +kernel)
set_option maxRecDepth 20000 in
theorem gX9_safe_X9_tries : GoodIn wsX9_safe (wsV RX9 120 RX9 yX9_tries wsX9_tries) := goodIn_app (goodIn_of _ (by decide +kernel)) ggX9_safe_X9_tries
theorem dX9_safe_0 : decode cX9_safe 0 = .ok (.iload_n 1, 1) := by decide +kernel
theorem dX9_safe_1 : decode cX9_safe 1 = .ok (.sipush (-4000), 3) := by decide +kernel
theorem dX9_safe_4 : decode cX9_safe 4 = .ok (.sipush 4000, 3) := by decide +kernel
theorem dX9_safe_7 : decode cX9_safe 7 = .ok (.invokestatic 42, 3) := by decide +kernel
theorem dX9_safe_10 : decode cX9_safe 10 = .ok (.ifCond .ne 6, 3) := by decide +kernel
theorem dX9_safe_13 : decode cX9_safe 13 = .ok (.ldc 53, 2) := by decide +kernel
theorem dX9_safe_15 : decode cX9_safe 15 = .ok (.ireturn, 1) := by decide +kernel
theorem dX9_safe_16 : decode cX9_safe 16 = .ok (.aload_n 0, 1) := by decide +kernel
theorem dX9_safe_17 : decode cX9_safe 17 = .ok (.iload_n 1, 1) := by decide +kernel
theorem dX9_safe_18 : decode cX9_safe 18 = .ok (.invokevirtual 96, 3) := by decide +kernel
theorem dX9_safe_21 : decode cX9_safe 21 = .ok (.ifCond .ne 6, 3) := by decide +kernel
theorem dX9_safe_24 : decode cX9_safe 24 = .ok (.ldc 58, 2) := by decide +kernel
theorem dX9_safe_26 : decode cX9_safe 26 = .ok (.ireturn, 1) := by decide +kernel
theorem dX9_safe_27 : decode cX9_safe 27 = .ok (.aload_n 0, 1) := by decide +kernel
theorem dX9_safe_28 : decode cX9_safe 28 = .ok (.getfield 7, 3) := by decide +kernel
theorem dX9_safe_31 : decode cX9_safe 31 = .ok (.iconst 2, 1) := by decide +kernel
theorem dX9_safe_32 : decode cX9_safe 32 = .ok (.iaload, 1) := by decide +kernel
theorem dX9_safe_33 : decode cX9_safe 33 = .ok (.istore_n 2, 1) := by decide +kernel
theorem dX9_safe_34 : decode cX9_safe 34 = .ok (.iload_n 2, 1) := by decide +kernel
theorem dX9_safe_35 : decode cX9_safe 35 = .ok (.ifCond .lt 20, 3) := by decide +kernel
theorem dX9_safe_38 : decode cX9_safe 38 = .ok (.aload_n 0, 1) := by decide +kernel
theorem dX9_safe_39 : decode cX9_safe 39 = .ok (.iload_n 1, 1) := by decide +kernel
theorem dX9_safe_40 : decode cX9_safe 40 = .ok (.iload_n 2, 1) := by decide +kernel
theorem dX9_safe_41 : decode cX9_safe 41 = .ok (.invokevirtual 120, 3) := by decide +kernel
theorem dX9_safe_44 : decode cX9_safe 44 = .ok (.ifCond .ne 5, 3) := by decide +kernel
theorem dX9_safe_47 : decode cX9_safe 47 = .ok (.iload_n 2, 1) := by decide +kernel
theorem dX9_safe_48 : decode cX9_safe 48 = .ok (.ireturn, 1) := by decide +kernel
theorem dX9_safe_49 : decode cX9_safe 49 = .ok (.iinc 2 (-1), 3) := by decide +kernel
theorem dX9_safe_52 : decode cX9_safe 52 = .ok (.goto (-18), 3) := by decide +kernel
theorem dX9_safe_55 : decode cX9_safe 55 = .ok (.ldc 59, 2) := by decide +kernel
theorem dX9_safe_57 : decode cX9_safe 57 = .ok (.ireturn, 1) := by decide +kernel
set_option maxRecDepth 20000 in
theorem ggX9_firstMiss_X9_in : GoodIn wsX9_firstMiss wsX9_in := goodIn_r _ [9] (by decide +kernel) (by decide +kernel)
set_option maxRecDepth 20000 in
theorem gX9_firstMiss_X9_in : GoodIn wsX9_firstMiss (va_wsS RX9 42 yX9_in wsX9_in) := goodIn_app (goodIn_of _ (by decide +kernel)) ggX9_firstMiss_X9_in
set_option maxRecDepth 20000 in
theorem ggX9_firstMiss_X9_canMove : GoodIn wsX9_firstMiss wsX9_canMove := goodIn_r _ [13, 3, 6, 7, 8, 9, 56, 57, 58, 59, 60, 61, 62, 63, 64, 65, 66, 67, 68, 69, 70, 71, 72, 73, 74] (by decide +kernel) (by decide +kernel)
set_option maxRecDepth 20000 in
theorem gX9_firstMiss_X9_canMove : GoodIn wsX9_firstMiss (wsV RX9 96 RX9 yX9_canMove wsX9_canMove) := goodIn_app (goodIn_of _ (by decide +kernel)) ggX9_firstMiss_X9_canMove
set_option maxRecDepth 20000 in
theorem ggX9_firstMiss_X9_tries : GoodIn wsX9_firstMiss wsX9_tries := goodIn_r _ [17, 3, 18, 19, 20, 21, 8, 22, 23, 24, 25, 26, 27, 28, 29, 30, 31, 32, 33, 4, 5, 34, 35, 36, 37, 38, 39, 40, 41, 42, 43, 44, 45, 46, 47, 6, 7, 9, 48, 49, 50, 51, 52, 53, 54, 55, 56, 57, 58, 59, 60, 61, 62, 63, 64, 65, 66, 67, 68, 69, 70, 71, 72, 73, 74] (by decide +kernel) (by decide +kernel)
set_option maxRecDepth 20000 in
theorem gX9_firstMiss_X9_tries : GoodIn wsX9_firstMiss (wsV RX9 120 RX9 yX9_tries wsX9_tries) := goodIn_app (goodIn_of _ (by decide +kernel)) ggX9_firstMiss_X9_tries
theorem dX9_firstMiss_0 : decode cX9_firstMiss 0 = .ok (.iload_n 1, 1) := by decide +kernel
theorem dX9_firstMiss_1 : decode cX9_firstMiss 1 = .ok (.sipush (-4000), 3) := by decide +kernel
theorem dX9_firstMiss_4 : decode cX9_firstMiss 4 = .ok (.sipush 4000, 3) := by decide +kernel
theorem dX9_firstMiss_7 : decode cX9_firstMiss 7 = .ok (.invokestatic 42, 3) := by decide +kernel
theorem dX9_firstMiss_10 : decode cX9_firstMiss 10 = .ok (.ifCond .ne 6, 3) := by decide +kernel
theorem dX9_firstMiss_13 : decode cX9_firstMiss 13 = .ok (.ldc 53, 2) := by decide +kernel
theorem dX9_firstMiss_15 : decode cX9_firstMiss 15 = .ok (.ireturn, 1) := by decide +kernel
theorem dX9_firstMiss_16 : decode cX9_firstMiss 16 = .ok (.aload_n 0, 1) := by decide +kernel
theorem dX9_firstMiss_17 : decode cX9_firstMiss 17 = .ok (.iload_n 1, 1) := by decide +kernel
theorem dX9_firstMiss_18 : decode cX9_firstMiss 18 = .ok (.invokevirtual 96, 3) := by decide +kernel
theorem dX9_firstMiss_21 : decode cX9_firstMiss 21 = .ok (.ifCond .ne 6, 3) := by decide +kernel
theorem dX9_firstMiss_24 : decode cX9_firstMiss 24 = .ok (.ldc 58, 2) := by decide +kernel
theorem dX9_firstMiss_26 : decode cX9_firstMiss 26 = .ok (.ireturn, 1) := by decide +kernel
theorem dX9_firstMiss_27 : decode cX9_firstMiss 27 = .ok (.aload_n 0, 1) := by decide +kernel
theorem dX9_firstMiss_28 : decode cX9_firstMiss 28 = .ok (.iload_n 1, 1) := by decide +kernel
theorem dX9_firstMiss_29 : decode cX9_firstMiss 29 = .ok (.aload_n 0, 1) := by decide +kernel
theorem dX9_firstMiss_30 : decode cX9_firstMiss 30 = .ok (.getfield 7, 3) := by decide +kernel
theorem dX9_firstMiss_33 : decode cX9_firstMiss 33 = .ok (.iconst 2, 1) := by decide +kernel
theorem dX9_firstMiss_34 : decode cX9_firstMiss 34 = .ok (.iaload, 1) := by decide +kernel
theorem dX9_firstMiss_35 : decode cX9_firstMiss 35 = .ok (.invokevirtual 120, 3) := by decide +kernel
theorem dX9_firstMiss_38 : decode cX9_firstMiss 38 = .ok (.ifCond .ne 8, 3) := by decide +kernel
theorem dX9_firstMiss_41 : decode cX9_firstMiss 41 = .ok (.ldc 59, 2) := by decide +kernel
theorem dX9_firstMiss_43 : decode cX9_firstMiss 43 = .ok (.goto 7, 3) := by decide +kernel
theorem dX9_firstMiss_46 : decode cX9_firstMiss 46 = .ok (.aload_n 0, 1) := by decide +kernel
theorem dX9_firstMiss_47 : decode cX9_firstMiss 47 = .ok (.getfield 83, 3) := by decide +kernel
theorem dX9_firstMiss_50 : decode cX9_firstMiss 50 = .ok (.ireturn, 1) := by decide +kernel
set_option maxRecDepth 20000 in
theorem ggX9_speedBits_Jxf58ca_floatToIntBits_5c35a : GoodIn wsX9_speedBits wsJxf58ca_floatToIntBits_5c35a := goodIn_r _ [7, 8, 9, 10, 11, 12, 13, 14, 6, 15] (by decide +kernel) (by decide +kernel)
set_option maxRecDepth 20000 in
theorem gX9_speedBits_Jxf58ca_floatToIntBits_5c35a : GoodIn wsX9_speedBits (va_wsS RX9 123 yJxf58ca_floatToIntBits_5c35a wsJxf58ca_floatToIntBits_5c35a) := goodIn_app (goodIn_of _ (by decide +kernel)) ggX9_speedBits_Jxf58ca_floatToIntBits_5c35a
theorem dX9_speedBits_0 : decode cX9_speedBits 0 = .ok (.iload_n 1, 1) := by decide +kernel
theorem dX9_speedBits_1 : decode cX9_speedBits 1 = .ok (.ifCond .ge 6, 3) := by decide +kernel
theorem dX9_speedBits_4 : decode cX9_speedBits 4 = .ok (.ldc 53, 2) := by decide +kernel
theorem dX9_speedBits_6 : decode cX9_speedBits 6 = .ok (.ireturn, 1) := by decide +kernel
theorem dX9_speedBits_7 : decode cX9_speedBits 7 = .ok (.iload_n 1, 1) := by decide +kernel
theorem dX9_speedBits_8 : decode cX9_speedBits 8 = .ok (.aload_n 0, 1) := by decide +kernel
theorem dX9_speedBits_9 : decode cX9_speedBits 9 = .ok (.getfield 7, 3) := by decide +kernel
theorem dX9_speedBits_12 : decode cX9_speedBits 12 = .ok (.bipush 37, 2) := by decide +kernel
theorem dX9_speedBits_14 : decode cX9_speedBits 14 = .ok (.iaload, 1) := by decide +kernel
theorem dX9_speedBits_15 : decode cX9_speedBits 15 = .ok (.if_icmp .ge 30, 3) := by decide +kernel
theorem dX9_speedBits_18 : decode cX9_speedBits 18 = .ok (.aload_n 0, 1) := by decide +kernel
theorem dX9_speedBits_19 : decode cX9_speedBits 19 = .ok (.getfield 7, 3) := by decide +kernel
theorem dX9_speedBits_22 : decode cX9_speedBits 22 = .ok (.bipush 38, 2) := by decide +kernel
theorem dX9_speedBits_24 : decode cX9_speedBits 24 = .ok (.iconst 5, 1) := by decide +kernel
theorem dX9_speedBits_25 : decode cX9_speedBits 25 = .ok (.iload_n 1, 1) := by decide +kernel
theorem dX9_speedBits_26 : decode cX9_speedBits 26 = .ok (.imul, 1) := by decide +kernel
theorem dX9_speedBits_27 : decode cX9_speedBits 27 = .ok (.iadd, 1) := by decide +kernel
theorem dX9_speedBits_28 : decode cX9_speedBits 28 = .ok (.iaload, 1) := by decide +kernel
theorem dX9_speedBits_29 : decode cX9_speedBits 29 = .ok (.aload_n 0, 1) := by decide +kernel
theorem dX9_speedBits_30 : decode cX9_speedBits 30 = .ok (.getfield 7, 3) := by decide +kernel
theorem dX9_speedBits_33 : decode cX9_speedBits 33 = .ok (.bipush 38, 2) := by decide +kernel
theorem dX9_speedBits_35 : decode cX9_speedBits 35 = .ok (.iconst 5, 1) := by decide +kernel
theorem dX9_speedBits_36 : decode cX9_speedBits 36 = .ok (.iload_n 1, 1) := by decide +kernel
theorem dX9_speedBits_37 : decode cX9_speedBits 37 = .ok (.imul, 1) := by decide +kernel
theorem dX9_speedBits_38 : decode cX9_speedBits 38 = .ok (.iadd, 1) := by decide +kernel
theorem dX9_speedBits_39 : decode cX9_speedBits 39 = .ok (.iconst 1, 1) := by decide +kernel
theorem dX9_speedBits_40 : decode cX9_speedBits 40 = .ok (.iadd, 1) := by decide +kernel
theorem dX9_speedBits_41 : decode cX9_speedBits 41 = .ok (.iaload, 1) := by decide +kernel
theorem dX9_speedBits_42 : decode cX9_speedBits 42 = .ok (.if_icmp .ne 6, 3) := by decide +kernel
theorem dX9_speedBits_45 : decode cX9_speedBits 45 = .ok (.ldc 59, 2) := by decide +kernel
theorem dX9_speedBits_47 : decode cX9_speedBits 47 = .ok (.ireturn, 1) := by decide +kernel
theorem dX9_speedBits_48 : decode cX9_speedBits 48 = .ok (.aload_n 0, 1) := by decide +kernel
theorem dX9_speedBits_49 : decode cX9_speedBits 49 = .ok (.getfield 7, 3) := by decide +kernel
theorem dX9_speedBits_52 : decode cX9_speedBits 52 = .ok (.bipush 38, 2) := by decide +kernel
theorem dX9_speedBits_54 : decode cX9_speedBits 54 = .ok (.iconst 5, 1) := by decide +kernel
theorem dX9_speedBits_55 : decode cX9_speedBits 55 = .ok (.iload_n 1, 1) := by decide +kernel
theorem dX9_speedBits_56 : decode cX9_speedBits 56 = .ok (.imul, 1) := by decide +kernel
theorem dX9_speedBits_57 : decode cX9_speedBits 57 = .ok (.iadd, 1) := by decide +kernel
theorem dX9_speedBits_58 : decode cX9_speedBits 58 = .ok (.iconst 1, 1) := by decide +kernel
theorem dX9_speedBits_59 : decode cX9_speedBits 59 = .ok (.iadd, 1) := by decide +kernel
theorem dX9_speedBits_60 : decode cX9_speedBits 60 = .ok (.iaload, 1) := by decide +kernel
theorem dX9_speedBits_61 : decode cX9_speedBits 61 = .ok (.aload_n 0, 1) := by decide +kernel
theorem dX9_speedBits_62 : decode cX9_speedBits 62 = .ok (.getfield 7, 3) := by decide +kernel
theorem dX9_speedBits_65 : decode cX9_speedBits 65 = .ok (.bipush 38, 2) := by decide +kernel
theorem dX9_speedBits_67 : decode cX9_speedBits 67 = .ok (.iconst 5, 1) := by decide +kernel
theorem dX9_speedBits_68 : decode cX9_speedBits 68 = .ok (.iload_n 1, 1) := by decide +kernel
theorem dX9_speedBits_69 : decode cX9_speedBits 69 = .ok (.imul, 1) := by decide +kernel
theorem dX9_speedBits_70 : decode cX9_speedBits 70 = .ok (.iadd, 1) := by decide +kernel
theorem dX9_speedBits_71 : decode cX9_speedBits 71 = .ok (.iaload, 1) := by decide +kernel
theorem dX9_speedBits_72 : decode cX9_speedBits 72 = .ok (.isub, 1) := by decide +kernel
theorem dX9_speedBits_73 : decode cX9_speedBits 73 = .ok (.istore_n 2, 1) := by decide +kernel
theorem dX9_speedBits_74 : decode cX9_speedBits 74 = .ok (.iload_n 2, 1) := by decide +kernel
theorem dX9_speedBits_75 : decode cX9_speedBits 75 = .ok (.ifCond .ge 8, 3) := by decide +kernel
theorem dX9_speedBits_78 : decode cX9_speedBits 78 = .ok (.iload_n 2, 1) := by decide +kernel
theorem dX9_speedBits_79 : decode cX9_speedBits 79 = .ok (.ineg, 1) := by decide +kernel
theorem dX9_speedBits_80 : decode cX9_speedBits 80 = .ok (.goto 4, 3) := by decide +kernel
theorem dX9_speedBits_83 : decode cX9_speedBits 83 = .ok (.iload_n 2, 1) := by decide +kernel
theorem dX9_speedBits_84 : decode cX9_speedBits 84 = .ok (.i2f, 1) := by decide +kernel
theorem dX9_speedBits_85 : decode cX9_speedBits 85 = .ok (.aload_n 0, 1) := by decide +kernel
theorem dX9_speedBits_86 : decode cX9_speedBits 86 = .ok (.getfield 7, 3) := by decide +kernel
theorem dX9_speedBits_89 : decode cX9_speedBits 89 = .ok (.bipush 38, 2) := by decide +kernel
theorem dX9_speedBits_91 : decode cX9_speedBits 91 = .ok (.iconst 5, 1) := by decide +kernel
theorem dX9_speedBits_92 : decode cX9_speedBits 92 = .ok (.iload_n 1, 1) := by decide +kernel
theorem dX9_speedBits_93 : decode cX9_speedBits 93 = .ok (.imul, 1) := by decide +kernel
theorem dX9_speedBits_94 : decode cX9_speedBits 94 = .ok (.iadd, 1) := by decide +kernel
theorem dX9_speedBits_95 : decode cX9_speedBits 95 = .ok (.iconst 3, 1) := by decide +kernel
theorem dX9_speedBits_96 : decode cX9_speedBits 96 = .ok (.iadd, 1) := by decide +kernel
theorem dX9_speedBits_97 : decode cX9_speedBits 97 = .ok (.iaload, 1) := by decide +kernel
theorem dX9_speedBits_98 : decode cX9_speedBits 98 = .ok (.i2f, 1) := by decide +kernel
theorem dX9_speedBits_99 : decode cX9_speedBits 99 = .ok (.fdiv, 1) := by decide +kernel
theorem dX9_speedBits_100 : decode cX9_speedBits 100 = .ok (.fstore_n 3, 1) := by decide +kernel
theorem dX9_speedBits_101 : decode cX9_speedBits 101 = .ok (.fload_n 3, 1) := by decide +kernel
theorem dX9_speedBits_102 : decode cX9_speedBits 102 = .ok (.invokestatic 123, 3) := by decide +kernel
theorem dX9_speedBits_105 : decode cX9_speedBits 105 = .ok (.ireturn, 1) := by decide +kernel
theorem dX9_undo_0 : decode cX9_undo 0 = .ok (.aload_n 0, 1) := by decide +kernel
theorem dX9_undo_1 : decode cX9_undo 1 = .ok (.getfield 38, 3) := by decide +kernel
theorem dX9_undo_4 : decode cX9_undo 4 = .ok (.ifCond .ne 6, 3) := by decide +kernel
theorem dX9_undo_7 : decode cX9_undo 7 = .ok (.ldc 58, 2) := by decide +kernel
theorem dX9_undo_9 : decode cX9_undo 9 = .ok (.ireturn, 1) := by decide +kernel
theorem dX9_undo_10 : decode cX9_undo 10 = .ok (.aload_n 0, 1) := by decide +kernel
theorem dX9_undo_11 : decode cX9_undo 11 = .ok (.dup, 1) := by decide +kernel
theorem dX9_undo_12 : decode cX9_undo 12 = .ok (.getfield 38, 3) := by decide +kernel
theorem dX9_undo_15 : decode cX9_undo 15 = .ok (.iconst 1, 1) := by decide +kernel
theorem dX9_undo_16 : decode cX9_undo 16 = .ok (.isub, 1) := by decide +kernel
theorem dX9_undo_17 : decode cX9_undo 17 = .ok (.putfield 38, 3) := by decide +kernel
theorem dX9_undo_20 : decode cX9_undo 20 = .ok (.iconst 0, 1) := by decide +kernel
theorem dX9_undo_21 : decode cX9_undo 21 = .ok (.istore_n 1, 1) := by decide +kernel
theorem dX9_undo_22 : decode cX9_undo 22 = .ok (.iload_n 1, 1) := by decide +kernel
theorem dX9_undo_23 : decode cX9_undo 23 = .ok (.bipush 63, 2) := by decide +kernel
theorem dX9_undo_25 : decode cX9_undo 25 = .ok (.if_icmp .ge 29, 3) := by decide +kernel
theorem dX9_undo_28 : decode cX9_undo 28 = .ok (.aload_n 0, 1) := by decide +kernel
theorem dX9_undo_29 : decode cX9_undo 29 = .ok (.getfield 7, 3) := by decide +kernel
theorem dX9_undo_32 : decode cX9_undo 32 = .ok (.iload_n 1, 1) := by decide +kernel
theorem dX9_undo_33 : decode cX9_undo 33 = .ok (.aload_n 0, 1) := by decide +kernel
theorem dX9_undo_34 : decode cX9_undo 34 = .ok (.getfield 13, 3) := by decide +kernel
theorem dX9_undo_37 : decode cX9_undo 37 = .ok (.bipush 63, 2) := by decide +kernel
theorem dX9_undo_39 : decode cX9_undo 39 = .ok (.aload_n 0, 1) := by decide +kernel
theorem dX9_undo_40 : decode cX9_undo 40 = .ok (.getfield 38, 3) := by decide +kernel
theorem dX9_undo_43 : decode cX9_undo 43 = .ok (.imul, 1) := by decide +kernel
theorem dX9_undo_44 : decode cX9_undo 44 = .ok (.iload_n 1, 1) := by decide +kernel
theorem dX9_undo_45 : decode cX9_undo 45 = .ok (.iadd, 1) := by decide +kernel
theorem dX9_undo_46 : decode cX9_undo 46 = .ok (.iaload, 1) := by decide +kernel
theorem dX9_undo_47 : decode cX9_undo 47 = .ok (.iastore, 1) := by decide +kernel
theorem dX9_undo_48 : decode cX9_undo 48 = .ok (.iinc 1 1, 3) := by decide +kernel
theorem dX9_undo_51 : decode cX9_undo 51 = .ok (.goto (-29), 3) := by decide +kernel
theorem dX9_undo_54 : decode cX9_undo 54 = .ok (.aload_n 0, 1) := by decide +kernel
theorem dX9_undo_55 : decode cX9_undo 55 = .ok (.getfield 38, 3) := by decide +kernel
theorem dX9_undo_58 : decode cX9_undo 58 = .ok (.ireturn, 1) := by decide +kernel
set_option maxRecDepth 20000 in
theorem ggX9_type_X9_in : GoodIn wsX9_type wsX9_in := goodIn_r _ [8] (by decide +kernel) (by decide +kernel)
set_option maxRecDepth 20000 in
theorem gX9_type_X9_in : GoodIn wsX9_type (va_wsS RX9 42 yX9_in wsX9_in) := goodIn_app (goodIn_of _ (by decide +kernel)) ggX9_type_X9_in
theorem dX9_type_0 : decode cX9_type 0 = .ok (.iload_n 1, 1) := by decide +kernel
theorem dX9_type_1 : decode cX9_type 1 = .ok (.bipush 32, 2) := by decide +kernel
theorem dX9_type_3 : decode cX9_type 3 = .ok (.bipush 126, 2) := by decide +kernel
theorem dX9_type_5 : decode cX9_type 5 = .ok (.invokestatic 42, 3) := by decide +kernel
theorem dX9_type_8 : decode cX9_type 8 = .ok (.ifCond .ne 6, 3) := by decide +kernel
theorem dX9_type_11 : decode cX9_type 11 = .ok (.ldc 53, 2) := by decide +kernel
theorem dX9_type_13 : decode cX9_type 13 = .ok (.ireturn, 1) := by decide +kernel
theorem dX9_type_14 : decode cX9_type 14 = .ok (.aload_n 0, 1) := by decide +kernel
theorem dX9_type_15 : decode cX9_type 15 = .ok (.getfield 117, 3) := by decide +kernel
theorem dX9_type_18 : decode cX9_type 18 = .ok (.bipush 60, 2) := by decide +kernel
theorem dX9_type_20 : decode cX9_type 20 = .ok (.if_icmp .ne 6, 3) := by decide +kernel
theorem dX9_type_23 : decode cX9_type 23 = .ok (.ldc 57, 2) := by decide +kernel
theorem dX9_type_25 : decode cX9_type 25 = .ok (.ireturn, 1) := by decide +kernel
theorem dX9_type_26 : decode cX9_type 26 = .ok (.aload_n 0, 1) := by decide +kernel
theorem dX9_type_27 : decode cX9_type 27 = .ok (.getfield 22, 3) := by decide +kernel
theorem dX9_type_30 : decode cX9_type 30 = .ok (.aload_n 0, 1) := by decide +kernel
theorem dX9_type_31 : decode cX9_type 31 = .ok (.getfield 117, 3) := by decide +kernel
theorem dX9_type_34 : decode cX9_type 34 = .ok (.iload_n 1, 1) := by decide +kernel
theorem dX9_type_35 : decode cX9_type 35 = .ok (.iastore, 1) := by decide +kernel
theorem dX9_type_36 : decode cX9_type 36 = .ok (.aload_n 0, 1) := by decide +kernel
theorem dX9_type_37 : decode cX9_type 37 = .ok (.dup, 1) := by decide +kernel
theorem dX9_type_38 : decode cX9_type 38 = .ok (.getfield 117, 3) := by decide +kernel
theorem dX9_type_41 : decode cX9_type 41 = .ok (.iconst 1, 1) := by decide +kernel
theorem dX9_type_42 : decode cX9_type 42 = .ok (.iadd, 1) := by decide +kernel
theorem dX9_type_43 : decode cX9_type 43 = .ok (.putfield 117, 3) := by decide +kernel
theorem dX9_type_46 : decode cX9_type 46 = .ok (.aload_n 0, 1) := by decide +kernel
theorem dX9_type_47 : decode cX9_type 47 = .ok (.getfield 117, 3) := by decide +kernel
theorem dX9_type_50 : decode cX9_type 50 = .ok (.ireturn, 1) := by decide +kernel
theorem dX9_clearText_0 : decode cX9_clearText 0 = .ok (.aload_n 0, 1) := by decide +kernel
theorem dX9_clearText_1 : decode cX9_clearText 1 = .ok (.getfield 117, 3) := by decide +kernel
theorem dX9_clearText_4 : decode cX9_clearText 4 = .ok (.istore_n 1, 1) := by decide +kernel
theorem dX9_clearText_5 : decode cX9_clearText 5 = .ok (.aload_n 0, 1) := by decide +kernel
theorem dX9_clearText_6 : decode cX9_clearText 6 = .ok (.iconst 0, 1) := by decide +kernel
theorem dX9_clearText_7 : decode cX9_clearText 7 = .ok (.putfield 117, 3) := by decide +kernel
theorem dX9_clearText_10 : decode cX9_clearText 10 = .ok (.iload_n 1, 1) := by decide +kernel
theorem dX9_clearText_11 : decode cX9_clearText 11 = .ok (.ireturn, 1) := by decide +kernel
set_option maxRecDepth 20000 in
theorem ggX9_isAt_X9_in : GoodIn wsX9_isAt wsX9_in := goodIn_r _ [7] (by decide +kernel) (by decide +kernel)
set_option maxRecDepth 20000 in
theorem gX9_isAt_X9_in : GoodIn wsX9_isAt (va_wsS RX9 42 yX9_in wsX9_in) := goodIn_app (goodIn_of _ (by decide +kernel)) ggX9_isAt_X9_in
theorem dX9_isAt_0 : decode cX9_isAt 0 = .ok (.aload_n 0, 1) := by decide +kernel
theorem dX9_isAt_1 : decode cX9_isAt 1 = .ok (.getfield 129, 3) := by decide +kernel
theorem dX9_isAt_4 : decode cX9_isAt 4 = .ok (.aload_n 0, 1) := by decide +kernel
theorem dX9_isAt_5 : decode cX9_isAt 5 = .ok (.getfield 117, 3) := by decide +kernel
theorem dX9_isAt_8 : decode cX9_isAt 8 = .ok (.if_icmp .ge 24, 3) := by decide +kernel
theorem dX9_isAt_11 : decode cX9_isAt 11 = .ok (.aload_n 0, 1) := by decide +kernel
theorem dX9_isAt_12 : decode cX9_isAt 12 = .ok (.getfield 22, 3) := by decide +kernel
theorem dX9_isAt_15 : decode cX9_isAt 15 = .ok (.aload_n 0, 1) := by decide +kernel
theorem dX9_isAt_16 : decode cX9_isAt 16 = .ok (.getfield 129, 3) := by decide +kernel
theorem dX9_isAt_19 : decode cX9_isAt 19 = .ok (.iaload, 1) := by decide +kernel
theorem dX9_isAt_20 : decode cX9_isAt 20 = .ok (.iload_n 1, 1) := by decide +kernel
theorem dX9_isAt_21 : decode cX9_isAt 21 = .ok (.iload_n 2, 1) := by decide +kernel
theorem dX9_isAt_22 : decode cX9_isAt 22 = .ok (.invokestatic 42, 3) := by decide +kernel
theorem dX9_isAt_25 : decode cX9_isAt 25 = .ok (.ifCond .eq 7, 3) := by decide +kernel
theorem dX9_isAt_28 : decode cX9_isAt 28 = .ok (.iconst 1, 1) := by decide +kernel
theorem dX9_isAt_29 : decode cX9_isAt 29 = .ok (.goto 4, 3) := by decide +kernel
theorem dX9_isAt_32 : decode cX9_isAt 32 = .ok (.iconst 0, 1) := by decide +kernel
theorem dX9_isAt_33 : decode cX9_isAt 33 = .ok (.ireturn, 1) := by decide +kernel
set_option maxRecDepth 20000 in
theorem ggX9_passes_X9_isAt : GoodIn wsX9_passes wsX9_isAt := goodIn_r _ [6, 1, 7, 8, 9, 10, 5, 11, 12, 13, 14, 15, 16, 17, 18, 19, 20, 21, 22, 23, 24, 25, 26, 27, 28, 29, 30] (by decide +kernel) (by decide +kernel)
set_option maxRecDepth 20000 in
theorem gX9_passes_X9_isAt : GoodIn wsX9_passes (wsV RX9 132 RX9 yX9_isAt wsX9_isAt) := goodIn_app (goodIn_of _ (by decide +kernel)) ggX9_passes_X9_isAt
theorem dX9_passes_0 : decode cX9_passes 0 = .ok (.aload_n 0, 1) := by decide +kernel
theorem dX9_passes_1 : decode cX9_passes 1 = .ok (.iload_n 1, 1) := by decide +kernel
theorem dX9_passes_2 : decode cX9_passes 2 = .ok (.iload_n 1, 1) := by decide +kernel
theorem dX9_passes_3 : decode cX9_passes 3 = .ok (.invokevirtual 132, 3) := by decide +kernel
theorem dX9_passes_6 : decode cX9_passes 6 = .ok (.istore_n 2, 1) := by decide +kernel
theorem dX9_passes_7 : decode cX9_passes 7 = .ok (.aload_n 0, 1) := by decide +kernel
theorem dX9_passes_8 : decode cX9_passes 8 = .ok (.dup, 1) := by decide +kernel
theorem dX9_passes_9 : decode cX9_passes 9 = .ok (.getfield 129, 3) := by decide +kernel
theorem dX9_passes_12 : decode cX9_passes 12 = .ok (.iload_n 2, 1) := by decide +kernel
theorem dX9_passes_13 : decode cX9_passes 13 = .ok (.ifCond .eq 7, 3) := by decide +kernel
theorem dX9_passes_16 : decode cX9_passes 16 = .ok (.iconst 1, 1) := by decide +kernel
theorem dX9_passes_17 : decode cX9_passes 17 = .ok (.goto 4, 3) := by decide +kernel
theorem dX9_passes_20 : decode cX9_passes 20 = .ok (.iconst 0, 1) := by decide +kernel
theorem dX9_passes_21 : decode cX9_passes 21 = .ok (.iadd, 1) := by decide +kernel
theorem dX9_passes_22 : decode cX9_passes 22 = .ok (.putfield 129, 3) := by decide +kernel
theorem dX9_passes_25 : decode cX9_passes 25 = .ok (.iload_n 2, 1) := by decide +kernel
theorem dX9_passes_26 : decode cX9_passes 26 = .ok (.ireturn, 1) := by decide +kernel
set_option maxRecDepth 20000 in
theorem ggX9_number_X9_passes : GoodIn wsX9_number wsX9_passes := goodIn_r _ [8, 1, 9, 10, 11, 7, 12, 13, 2, 14, 15, 16, 17, 18, 19, 20, 21, 22, 23, 24, 25, 26, 27, 28, 29, 30, 31, 32, 33, 34, 35] (by decide +kernel) (by decide +kernel)
set_option maxRecDepth 20000 in
theorem gX9_number_X9_passes : GoodIn wsX9_number (wsV RX9 135 RX9 yX9_passes wsX9_passes) := goodIn_app (goodIn_of _ (by decide +kernel)) ggX9_number_X9_passes
set_option maxRecDepth 20000 in
theorem ggX9_number_X9_isAt : GoodIn wsX9_number wsX9_isAt := goodIn_r _ [12, 1, 13, 2, 14, 15, 7, 16, 17, 18, 19, 20, 21, 22, 23, 24, 25, 26, 27, 28, 29, 30, 31, 32, 33, 34, 35] (by decide +kernel) (by decide +kernel)
set_option maxRecDepth 20000 in
theorem gX9_number_X9_isAt : GoodIn wsX9_number (wsV RX9 132 RX9 yX9_isAt wsX9_isAt) := goodIn_app (goodIn_of _ (by decide +kernel)) ggX9_number_X9_isAt
theorem dX9_number_0 : decode cX9_number 0 = .ok (.iload_n 2, 1) := by decide +kernel
theorem dX9_number_1 : decode cX9_number 1 = .ok (.ifCond .eq 16, 3) := by decide +kernel
theorem dX9_number_4 : decode cX9_number 4 = .ok (.aload_n 0, 1) := by decide +kernel
theorem dX9_number_5 : decode cX9_number 5 = .ok (.bipush 45, 2) := by decide +kernel
theorem dX9_number_7 : decode cX9_number 7 = .ok (.invokevirtual 135, 3) := by decide +kernel
theorem dX9_number_10 : decode cX9_number 10 = .ok (.ifCond .eq 7, 3) := by decide +kernel
theorem dX9_number_13 : decode cX9_number 13 = .ok (.iconst 1, 1) := by decide +kernel
theorem dX9_number_14 : decode cX9_number 14 = .ok (.goto 4, 3) := by decide +kernel
theorem dX9_number_17 : decode cX9_number 17 = .ok (.iconst 0, 1) := by decide +kernel
theorem dX9_number_18 : decode cX9_number 18 = .ok (.istore_n 3, 1) := by decide +kernel
theorem dX9_number_19 : decode cX9_number 19 = .ok (.aload_n 0, 1) := by decide +kernel
theorem dX9_number_20 : decode cX9_number 20 = .ok (.getfield 129, 3) := by decide +kernel
theorem dX9_number_23 : decode cX9_number 23 = .ok (.istore 4, 2) := by decide +kernel
theorem dX9_number_25 : decode cX9_number 25 = .ok (.iconst 0, 1) := by decide +kernel
theorem dX9_number_26 : decode cX9_number 26 = .ok (.istore 5, 2) := by decide +kernel
theorem dX9_number_28 : decode cX9_number 28 = .ok (.aload_n 0, 1) := by decide +kernel
theorem dX9_number_29 : decode cX9_number 29 = .ok (.bipush 48, 2) := by decide +kernel
theorem dX9_number_31 : decode cX9_number 31 = .ok (.bipush 57, 2) := by decide +kernel
theorem dX9_number_33 : decode cX9_number 33 = .ok (.invokevirtual 132, 3) := by decide +kernel
theorem dX9_number_36 : decode cX9_number 36 = .ok (.ifCond .eq 47, 3) := by decide +kernel
theorem dX9_number_39 : decode cX9_number 39 = .ok (.aload_n 0, 1) := by decide +kernel
theorem dX9_number_40 : decode cX9_number 40 = .ok (.getfield 129, 3) := by decide +kernel
theorem dX9_number_43 : decode cX9_number 43 = .ok (.iload 4, 2) := by decide +kernel
theorem dX9_number_45 : decode cX9_number 45 = .ok (.isub, 1) := by decide +kernel
theorem dX9_number_46 : decode cX9_number 46 = .ok (.iconst 4, 1) := by decide +kernel
theorem dX9_number_47 : decode cX9_number 47 = .ok (.if_icmp .ge 36, 3) := by decide +kernel
theorem dX9_number_50 : decode cX9_number 50 = .ok (.bipush 10, 2) := by decide +kernel
theorem dX9_number_52 : decode cX9_number 52 = .ok (.iload 5, 2) := by decide +kernel
theorem dX9_number_54 : decode cX9_number 54 = .ok (.imul, 1) := by decide +kernel
theorem dX9_number_55 : decode cX9_number 55 = .ok (.aload_n 0, 1) := by decide +kernel
theorem dX9_number_56 : decode cX9_number 56 = .ok (.getfield 22, 3) := by decide +kernel
theorem dX9_number_59 : decode cX9_number 59 = .ok (.aload_n 0, 1) := by decide +kernel
theorem dX9_number_60 : decode cX9_number 60 = .ok (.getfield 129, 3) := by decide +kernel
theorem dX9_number_63 : decode cX9_number 63 = .ok (.iaload, 1) := by decide +kernel
theorem dX9_number_64 : decode cX9_number 64 = .ok (.iadd, 1) := by decide +kernel
theorem dX9_number_65 : decode cX9_number 65 = .ok (.bipush 48, 2) := by decide +kernel
theorem dX9_number_67 : decode cX9_number 67 = .ok (.isub, 1) := by decide +kernel
theorem dX9_number_68 : decode cX9_number 68 = .ok (.istore 5, 2) := by decide +kernel
theorem dX9_number_70 : decode cX9_number 70 = .ok (.aload_n 0, 1) := by decide +kernel
theorem dX9_number_71 : decode cX9_number 71 = .ok (.dup, 1) := by decide +kernel
theorem dX9_number_72 : decode cX9_number 72 = .ok (.getfield 129, 3) := by decide +kernel
theorem dX9_number_75 : decode cX9_number 75 = .ok (.iconst 1, 1) := by decide +kernel
theorem dX9_number_76 : decode cX9_number 76 = .ok (.iadd, 1) := by decide +kernel
theorem dX9_number_77 : decode cX9_number 77 = .ok (.putfield 129, 3) := by decide +kernel
theorem dX9_number_80 : decode cX9_number 80 = .ok (.goto (-52), 3) := by decide +kernel
theorem dX9_number_83 : decode cX9_number 83 = .ok (.aload_n 0, 1) := by decide +kernel
theorem dX9_number_84 : decode cX9_number 84 = .ok (.getfield 31, 3) := by decide +kernel
theorem dX9_number_87 : decode cX9_number 87 = .ok (.iload_n 1, 1) := by decide +kernel
theorem dX9_number_88 : decode cX9_number 88 = .ok (.iload_n 3, 1) := by decide +kernel
theorem dX9_number_89 : decode cX9_number 89 = .ok (.ifCond .eq 9, 3) := by decide +kernel
theorem dX9_number_92 : decode cX9_number 92 = .ok (.iload 5, 2) := by decide +kernel
theorem dX9_number_94 : decode cX9_number 94 = .ok (.ineg, 1) := by decide +kernel
theorem dX9_number_95 : decode cX9_number 95 = .ok (.goto 5, 3) := by decide +kernel
theorem dX9_number_98 : decode cX9_number 98 = .ok (.iload 5, 2) := by decide +kernel
theorem dX9_number_100 : decode cX9_number 100 = .ok (.iastore, 1) := by decide +kernel
theorem dX9_number_101 : decode cX9_number 101 = .ok (.aload_n 0, 1) := by decide +kernel
theorem dX9_number_102 : decode cX9_number 102 = .ok (.getfield 129, 3) := by decide +kernel
theorem dX9_number_105 : decode cX9_number 105 = .ok (.iload 4, 2) := by decide +kernel
theorem dX9_number_107 : decode cX9_number 107 = .ok (.if_icmp .le 7, 3) := by decide +kernel
theorem dX9_number_110 : decode cX9_number 110 = .ok (.iconst 1, 1) := by decide +kernel
theorem dX9_number_111 : decode cX9_number 111 = .ok (.goto 4, 3) := by decide +kernel
theorem dX9_number_114 : decode cX9_number 114 = .ok (.iconst 0, 1) := by decide +kernel
theorem dX9_number_115 : decode cX9_number 115 = .ok (.ireturn, 1) := by decide +kernel
set_option maxRecDepth 20000 in
theorem ggX9_reads_X9_passes : GoodIn wsX9_reads wsX9_passes := goodIn_r _ [8, 2, 9, 10, 11, 7, 12, 13, 1, 14, 15, 16, 22, 23, 24, 25, 26, 27, 28, 29, 30, 31, 32, 33, 34, 35, 36, 37, 38, 39, 40] (by decide +kernel) (by decide +kernel)
set_option maxRecDepth 20000 in
theorem gX9_reads_X9_passes : GoodIn wsX9_reads (wsV RX9 135 RX9 yX9_passes wsX9_passes) := goodIn_app (goodIn_of _ (by decide +kernel)) ggX9_reads_X9_passes
set_option maxRecDepth 20000 in
theorem ggX9_reads_X9_number : GoodIn wsX9_reads wsX9_number := goodIn_r _ [20, 2, 1, 21, 4, 5, 6, 7, 8, 9, 10, 11, 12, 13, 14, 15, 16, 22, 23, 24, 25, 26, 27, 28, 29, 30, 31, 32, 33, 34, 35, 36, 37, 38, 39, 40] (by decide +kernel) (by decide +kernel)
set_option maxRecDepth 20000 in
theorem gX9_reads_X9_number : GoodIn wsX9_reads (wsV RX9 141 RX9 yX9_number wsX9_number) := goodIn_app (goodIn_of _ (by decide +kernel)) ggX9_reads_X9_number
theorem dX9_reads_0 : decode cX9_reads 0 = .ok (.aload_n 0, 1) := by decide +kernel
theorem dX9_reads_1 : decode cX9_reads 1 = .ok (.aload_n 0, 1) := by decide +kernel
theorem dX9_reads_2 : decode cX9_reads 2 = .ok (.getfield 22, 3) := by decide +kernel
theorem dX9_reads_5 : decode cX9_reads 5 = .ok (.aload_n 0, 1) := by decide +kernel
theorem dX9_reads_6 : decode cX9_reads 6 = .ok (.getfield 129, 3) := by decide +kernel
theorem dX9_reads_9 : decode cX9_reads 9 = .ok (.iaload, 1) := by decide +kernel
theorem dX9_reads_10 : decode cX9_reads 10 = .ok (.putfield 138, 3) := by decide +kernel
theorem dX9_reads_13 : decode cX9_reads 13 = .ok (.aload_n 0, 1) := by decide +kernel
theorem dX9_reads_14 : decode cX9_reads 14 = .ok (.dup, 1) := by decide +kernel
theorem dX9_reads_15 : decode cX9_reads 15 = .ok (.getfield 129, 3) := by decide +kernel
theorem dX9_reads_18 : decode cX9_reads 18 = .ok (.iconst 1, 1) := by decide +kernel
theorem dX9_reads_19 : decode cX9_reads 19 = .ok (.iadd, 1) := by decide +kernel
theorem dX9_reads_20 : decode cX9_reads 20 = .ok (.putfield 129, 3) := by decide +kernel
theorem dX9_reads_23 : decode cX9_reads 23 = .ok (.aload_n 0, 1) := by decide +kernel
theorem dX9_reads_24 : decode cX9_reads 24 = .ok (.getfield 138, 3) := by decide +kernel
theorem dX9_reads_27 : decode cX9_reads 27 = .ok (.bipush 104, 2) := by decide +kernel
theorem dX9_reads_29 : decode cX9_reads 29 = .ok (.if_icmp .eq 12, 3) := by decide +kernel
theorem dX9_reads_32 : decode cX9_reads 32 = .ok (.aload_n 0, 1) := by decide +kernel
theorem dX9_reads_33 : decode cX9_reads 33 = .ok (.getfield 138, 3) := by decide +kernel
theorem dX9_reads_36 : decode cX9_reads 36 = .ok (.bipush 122, 2) := by decide +kernel
theorem dX9_reads_38 : decode cX9_reads 38 = .ok (.if_icmp .ne 10, 3) := by decide +kernel
theorem dX9_reads_41 : decode cX9_reads 41 = .ok (.aload_n 0, 1) := by decide +kernel
theorem dX9_reads_42 : decode cX9_reads 42 = .ok (.bipush 59, 2) := by decide +kernel
theorem dX9_reads_44 : decode cX9_reads 44 = .ok (.invokevirtual 135, 3) := by decide +kernel
theorem dX9_reads_47 : decode cX9_reads 47 = .ok (.ireturn, 1) := by decide +kernel
theorem dX9_reads_48 : decode cX9_reads 48 = .ok (.aload_n 0, 1) := by decide +kernel
theorem dX9_reads_49 : decode cX9_reads 49 = .ok (.getfield 138, 3) := by decide +kernel
theorem dX9_reads_52 : decode cX9_reads 52 = .ok (.bipush 115, 2) := by decide +kernel
theorem dX9_reads_54 : decode cX9_reads 54 = .ok (.if_icmp .ne 45, 3) := by decide +kernel
theorem dX9_reads_57 : decode cX9_reads 57 = .ok (.aload_n 0, 1) := by decide +kernel
theorem dX9_reads_58 : decode cX9_reads 58 = .ok (.iconst 0, 1) := by decide +kernel
theorem dX9_reads_59 : decode cX9_reads 59 = .ok (.iconst 0, 1) := by decide +kernel
theorem dX9_reads_60 : decode cX9_reads 60 = .ok (.invokevirtual 141, 3) := by decide +kernel
theorem dX9_reads_63 : decode cX9_reads 63 = .ok (.ifCond .eq 34, 3) := by decide +kernel
theorem dX9_reads_66 : decode cX9_reads 66 = .ok (.aload_n 0, 1) := by decide +kernel
theorem dX9_reads_67 : decode cX9_reads 67 = .ok (.bipush 44, 2) := by decide +kernel
theorem dX9_reads_69 : decode cX9_reads 69 = .ok (.invokevirtual 135, 3) := by decide +kernel
theorem dX9_reads_72 : decode cX9_reads 72 = .ok (.ifCond .eq 25, 3) := by decide +kernel
theorem dX9_reads_75 : decode cX9_reads 75 = .ok (.aload_n 0, 1) := by decide +kernel
theorem dX9_reads_76 : decode cX9_reads 76 = .ok (.iconst 1, 1) := by decide +kernel
theorem dX9_reads_77 : decode cX9_reads 77 = .ok (.iconst 1, 1) := by decide +kernel
theorem dX9_reads_78 : decode cX9_reads 78 = .ok (.invokevirtual 141, 3) := by decide +kernel
theorem dX9_reads_81 : decode cX9_reads 81 = .ok (.ifCond .eq 16, 3) := by decide +kernel
theorem dX9_reads_84 : decode cX9_reads 84 = .ok (.aload_n 0, 1) := by decide +kernel
theorem dX9_reads_85 : decode cX9_reads 85 = .ok (.bipush 59, 2) := by decide +kernel
theorem dX9_reads_87 : decode cX9_reads 87 = .ok (.invokevirtual 135, 3) := by decide +kernel
theorem dX9_reads_90 : decode cX9_reads 90 = .ok (.ifCond .eq 7, 3) := by decide +kernel
theorem dX9_reads_93 : decode cX9_reads 93 = .ok (.iconst 1, 1) := by decide +kernel
theorem dX9_reads_94 : decode cX9_reads 94 = .ok (.goto 4, 3) := by decide +kernel
theorem dX9_reads_97 : decode cX9_reads 97 = .ok (.iconst 0, 1) := by decide +kernel
theorem dX9_reads_98 : decode cX9_reads 98 = .ok (.ireturn, 1) := by decide +kernel
theorem dX9_reads_99 : decode cX9_reads 99 = .ok (.aload_n 0, 1) := by decide +kernel
theorem dX9_reads_100 : decode cX9_reads 100 = .ok (.getfield 138, 3) := by decide +kernel
theorem dX9_reads_103 : decode cX9_reads 103 = .ok (.bipush 103, 2) := by decide +kernel
theorem dX9_reads_105 : decode cX9_reads 105 = .ok (.if_icmp .eq 12, 3) := by decide +kernel
theorem dX9_reads_108 : decode cX9_reads 108 = .ok (.aload_n 0, 1) := by decide +kernel
theorem dX9_reads_109 : decode cX9_reads 109 = .ok (.getfield 138, 3) := by decide +kernel
theorem dX9_reads_112 : decode cX9_reads 112 = .ok (.bipush 114, 2) := by decide +kernel
theorem dX9_reads_114 : decode cX9_reads 114 = .ok (.if_icmp .ne 25, 3) := by decide +kernel
theorem dX9_reads_117 : decode cX9_reads 117 = .ok (.aload_n 0, 1) := by decide +kernel
theorem dX9_reads_118 : decode cX9_reads 118 = .ok (.iconst 0, 1) := by decide +kernel
theorem dX9_reads_119 : decode cX9_reads 119 = .ok (.iconst 1, 1) := by decide +kernel
theorem dX9_reads_120 : decode cX9_reads 120 = .ok (.invokevirtual 141, 3) := by decide +kernel
theorem dX9_reads_123 : decode cX9_reads 123 = .ok (.ifCond .eq 16, 3) := by decide +kernel
theorem dX9_reads_126 : decode cX9_reads 126 = .ok (.aload_n 0, 1) := by decide +kernel
theorem dX9_reads_127 : decode cX9_reads 127 = .ok (.bipush 59, 2) := by decide +kernel
theorem dX9_reads_129 : decode cX9_reads 129 = .ok (.invokevirtual 135, 3) := by decide +kernel
theorem dX9_reads_132 : decode cX9_reads 132 = .ok (.ifCond .eq 7, 3) := by decide +kernel
theorem dX9_reads_135 : decode cX9_reads 135 = .ok (.iconst 1, 1) := by decide +kernel
theorem dX9_reads_136 : decode cX9_reads 136 = .ok (.goto 4, 3) := by decide +kernel
theorem dX9_reads_139 : decode cX9_reads 139 = .ok (.iconst 0, 1) := by decide +kernel
theorem dX9_reads_140 : decode cX9_reads 140 = .ok (.ireturn, 1) := by decide +kernel
set_option maxRecDepth 20000 in
theorem ggX9_calls_X9_move : GoodIn wsX9_calls wsX9_move := goodIn_r _ [7, 8, 9, 10, 11, 6, 12, 13, 14, 15, 16, 17, 18, 19, 20, 21, 22, 23, 24, 25, 26, 27, 28, 29, 30, 31, 32, 33, 34, 35, 36, 37, 38, 39, 40, 41, 42, 43, 44, 45, 46, 47, 48, 49, 50, 51, 52, 53, 54, 55, 56, 57, 58, 59, 60, 61, 62, 63, 64, 103, 104, 105, 106, 107, 108, 109, 110, 111, 112, 113, 114, 115, 116, 117, 118, 119, 120, 121] (by decide +kernel) (by decide +kernel)
set_option maxRecDepth 20000 in
theorem gX9_calls_X9_move : GoodIn wsX9_calls (wsV RX9 145 RX9 yX9_move wsX9_move) := goodIn_app (goodIn_of _ (by decide +kernel)) ggX9_calls_X9_move
set_option maxRecDepth 20000 in
theorem ggX9_calls_X9_moveBy : GoodIn wsX9_calls wsX9_moveBy := goodIn_r _ [68, 8, 17, 9, 10, 11, 6, 12, 13, 14, 15, 16, 18, 19, 20, 21, 22, 23, 24, 25, 26, 27, 28, 29, 30, 31, 32, 33, 34, 35, 36, 37, 38, 39, 40, 41, 42, 43, 44, 45, 46, 47, 48, 49, 50, 51, 52, 53, 54, 55, 56, 57, 58, 59, 60, 61, 62, 63, 64, 103, 104, 105, 106, 107, 108, 109, 110, 111, 112, 113, 114, 115, 116, 117, 118, 119, 120, 121] (by decide +kernel) (by decide +kernel)
set_option maxRecDepth 20000 in
theorem gX9_calls_X9_moveBy : GoodIn wsX9_calls (wsV RX9 148 RX9 yX9_moveBy wsX9_moveBy) := goodIn_app (goodIn_of _ (by decide +kernel)) ggX9_calls_X9_moveBy
set_option maxRecDepth 20000 in
theorem ggX9_calls_X9_home : GoodIn wsX9_calls wsX9_home := goodIn_r _ [72, 17, 73, 74, 75, 6, 76, 77, 78, 79, 80, 9, 31, 32, 33, 34, 35, 36, 37, 81, 82, 83, 84, 42, 22, 48, 49, 50, 51, 52, 53, 54, 55, 56, 10, 11, 12, 57, 58, 59, 60, 61, 62, 63, 64, 85, 86, 87, 88, 24, 25, 26, 27, 28, 29, 30, 103, 104, 105, 106, 107, 108, 109, 110, 111, 112, 113, 114, 115, 116, 117, 118, 119, 120, 121] (by decide +kernel) (by decide +kernel)
set_option maxRecDepth 20000 in
theorem gX9_calls_X9_home : GoodIn wsX9_calls (wsV RX9 151 RX9 yX9_home wsX9_home) := goodIn_app (goodIn_of _ (by decide +kernel)) ggX9_calls_X9_home
set_option maxRecDepth 20000 in
theorem ggX9_calls_X9_set : GoodIn wsX9_calls wsX9_set := goodIn_r _ [92, 8, 17, 10, 11, 6, 12, 93, 94, 95, 96, 97, 98, 24, 25, 26, 27, 28, 29, 30, 103, 104, 105, 106, 107, 108, 109, 110, 111, 112, 113, 114, 115, 116, 117, 118, 119, 120, 121] (by decide +kernel) (by decide +kernel)
set_option maxRecDepth 20000 in
theorem gX9_calls_X9_set : GoodIn wsX9_calls (wsV RX9 154 RX9 yX9_set wsX9_set) := goodIn_app (goodIn_of _ (by decide +kernel)) ggX9_calls_X9_set
set_option maxRecDepth 20000 in
theorem ggX9_calls_X9_forget : GoodIn wsX9_calls wsX9_forget := goodIn_r _ [102, 17, 24, 25, 26, 6, 27, 28, 29, 30, 103, 104, 105, 106, 107, 108, 109, 110, 111, 112, 113, 114, 115, 116, 117, 118, 119, 120, 121] (by decide +kernel) (by decide +kernel)
set_option maxRecDepth 20000 in
theorem gX9_calls_X9_forget : GoodIn wsX9_calls (wsV RX9 157 RX9 yX9_forget wsX9_forget) := goodIn_app (goodIn_of _ (by decide +kernel)) ggX9_calls_X9_forget
theorem dX9_calls_0 : decode cX9_calls 0 = .ok (.aload_n 0, 1) := by decide +kernel
theorem dX9_calls_1 : decode cX9_calls 1 = .ok (.getfield 138, 3) := by decide +kernel
theorem dX9_calls_4 : decode cX9_calls 4 = .ok (.lookupswitch 88 #[(103, 44), (104, 66), (114, 55), (115, 71)], 44) := by decide +kernel
theorem dX9_calls_48 : decode cX9_calls 48 = .ok (.aload_n 0, 1) := by decide +kernel
theorem dX9_calls_49 : decode cX9_calls 49 = .ok (.aload_n 0, 1) := by decide +kernel
theorem dX9_calls_50 : decode cX9_calls 50 = .ok (.getfield 31, 3) := by decide +kernel
theorem dX9_calls_53 : decode cX9_calls 53 = .ok (.iconst 0, 1) := by decide +kernel
theorem dX9_calls_54 : decode cX9_calls 54 = .ok (.iaload, 1) := by decide +kernel
theorem dX9_calls_55 : decode cX9_calls 55 = .ok (.invokevirtual 145, 3) := by decide +kernel
theorem dX9_calls_58 : decode cX9_calls 58 = .ok (.ireturn, 1) := by decide +kernel
theorem dX9_calls_59 : decode cX9_calls 59 = .ok (.aload_n 0, 1) := by decide +kernel
theorem dX9_calls_60 : decode cX9_calls 60 = .ok (.aload_n 0, 1) := by decide +kernel
theorem dX9_calls_61 : decode cX9_calls 61 = .ok (.getfield 31, 3) := by decide +kernel
theorem dX9_calls_64 : decode cX9_calls 64 = .ok (.iconst 0, 1) := by decide +kernel
theorem dX9_calls_65 : decode cX9_calls 65 = .ok (.iaload, 1) := by decide +kernel
theorem dX9_calls_66 : decode cX9_calls 66 = .ok (.invokevirtual 148, 3) := by decide +kernel
theorem dX9_calls_69 : decode cX9_calls 69 = .ok (.ireturn, 1) := by decide +kernel
theorem dX9_calls_70 : decode cX9_calls 70 = .ok (.aload_n 0, 1) := by decide +kernel
theorem dX9_calls_71 : decode cX9_calls 71 = .ok (.invokevirtual 151, 3) := by decide +kernel
theorem dX9_calls_74 : decode cX9_calls 74 = .ok (.ireturn, 1) := by decide +kernel
theorem dX9_calls_75 : decode cX9_calls 75 = .ok (.aload_n 0, 1) := by decide +kernel
theorem dX9_calls_76 : decode cX9_calls 76 = .ok (.aload_n 0, 1) := by decide +kernel
theorem dX9_calls_77 : decode cX9_calls 77 = .ok (.getfield 31, 3) := by decide +kernel
theorem dX9_calls_80 : decode cX9_calls 80 = .ok (.iconst 0, 1) := by decide +kernel
theorem dX9_calls_81 : decode cX9_calls 81 = .ok (.iaload, 1) := by decide +kernel
theorem dX9_calls_82 : decode cX9_calls 82 = .ok (.aload_n 0, 1) := by decide +kernel
theorem dX9_calls_83 : decode cX9_calls 83 = .ok (.getfield 31, 3) := by decide +kernel
theorem dX9_calls_86 : decode cX9_calls 86 = .ok (.iconst 1, 1) := by decide +kernel
theorem dX9_calls_87 : decode cX9_calls 87 = .ok (.iaload, 1) := by decide +kernel
theorem dX9_calls_88 : decode cX9_calls 88 = .ok (.invokevirtual 154, 3) := by decide +kernel
theorem dX9_calls_91 : decode cX9_calls 91 = .ok (.ireturn, 1) := by decide +kernel
theorem dX9_calls_92 : decode cX9_calls 92 = .ok (.aload_n 0, 1) := by decide +kernel
theorem dX9_calls_93 : decode cX9_calls 93 = .ok (.invokevirtual 157, 3) := by decide +kernel
theorem dX9_calls_96 : decode cX9_calls 96 = .ok (.ireturn, 1) := by decide +kernel
set_option maxRecDepth 20000 in
theorem ggX9_plays_X9_reads : GoodIn wsX9_plays wsX9_reads := goodIn_r _ [12, 13, 2, 14, 15, 16, 17, 11, 18, 19, 20, 21, 22, 4, 23, 24, 25, 26, 27, 28, 29, 30, 128, 129, 130, 131, 132, 133, 134, 135, 136, 137, 138, 139, 140, 141, 142, 143, 144, 145, 146] (by decide +kernel) (by decide +kernel)
set_option maxRecDepth 20000 in
theorem gX9_plays_X9_reads : GoodIn wsX9_plays (wsV RX9 163 RX9 yX9_reads wsX9_reads) := goodIn_app (goodIn_of _ (by decide +kernel)) ggX9_plays_X9_reads
set_option maxRecDepth 20000 in
theorem ggX9_plays_X9_calls : GoodIn wsX9_plays wsX9_calls := goodIn_r _ [34, 14, 30, 35, 36, 37, 11, 38, 5, 39, 23, 24, 25, 40, 41, 42, 43, 44, 45, 46, 47, 48, 49, 50, 51, 52, 53, 54, 1, 55, 56, 57, 58, 59, 60, 61, 62, 63, 64, 65, 66, 67, 7, 68, 69, 70, 71, 72, 73, 74, 75, 76, 77, 78, 79, 80, 81, 82, 83, 84, 85, 86, 87, 88, 89, 90, 91, 92, 93, 94, 95, 96, 97, 98, 99, 100, 101, 102, 103, 104, 105, 106, 107, 108, 109, 110, 111, 112, 113, 114, 115, 116, 117, 118, 119, 120, 121, 122, 123, 124, 125, 126, 127, 128, 129, 130, 131, 132, 133, 134, 135, 136, 137, 138, 139, 140, 141, 142, 143, 144, 145, 146] (by decide +kernel) (by decide +kernel)
set_option maxRecDepth 20000 in
theorem gX9_plays_X9_calls : GoodIn wsX9_plays (wsV RX9 167 RX9 yX9_calls wsX9_calls) := goodIn_app (goodIn_of _ (by decide +kernel)) ggX9_plays_X9_calls
theorem dX9_plays_0 : decode cX9_plays 0 = .ok (.aload_n 0, 1) := by decide +kernel
theorem dX9_plays_1 : decode cX9_plays 1 = .ok (.iconst 1, 1) := by decide +kernel
theorem dX9_plays_2 : decode cX9_plays 2 = .ok (.putfield 34, 3) := by decide +kernel
theorem dX9_plays_5 : decode cX9_plays 5 = .ok (.aload_n 0, 1) := by decide +kernel
theorem dX9_plays_6 : decode cX9_plays 6 = .ok (.iconst 0, 1) := by decide +kernel
theorem dX9_plays_7 : decode cX9_plays 7 = .ok (.putfield 129, 3) := by decide +kernel
theorem dX9_plays_10 : decode cX9_plays 10 = .ok (.aload_n 0, 1) := by decide +kernel
theorem dX9_plays_11 : decode cX9_plays 11 = .ok (.iconst 0, 1) := by decide +kernel
theorem dX9_plays_12 : decode cX9_plays 12 = .ok (.putfield 160, 3) := by decide +kernel
theorem dX9_plays_15 : decode cX9_plays 15 = .ok (.iconst 0, 1) := by decide +kernel
theorem dX9_plays_16 : decode cX9_plays 16 = .ok (.istore_n 1, 1) := by decide +kernel
theorem dX9_plays_17 : decode cX9_plays 17 = .ok (.iconst 1, 1) := by decide +kernel
theorem dX9_plays_18 : decode cX9_plays 18 = .ok (.istore_n 2, 1) := by decide +kernel
theorem dX9_plays_19 : decode cX9_plays 19 = .ok (.aload_n 0, 1) := by decide +kernel
theorem dX9_plays_20 : decode cX9_plays 20 = .ok (.getfield 129, 3) := by decide +kernel
theorem dX9_plays_23 : decode cX9_plays 23 = .ok (.aload_n 0, 1) := by decide +kernel
theorem dX9_plays_24 : decode cX9_plays 24 = .ok (.getfield 117, 3) := by decide +kernel
theorem dX9_plays_27 : decode cX9_plays 27 = .ok (.if_icmp .ge 75, 3) := by decide +kernel
theorem dX9_plays_30 : decode cX9_plays 30 = .ok (.iload_n 2, 1) := by decide +kernel
theorem dX9_plays_31 : decode cX9_plays 31 = .ok (.ifCond .eq 71, 3) := by decide +kernel
theorem dX9_plays_34 : decode cX9_plays 34 = .ok (.aload_n 0, 1) := by decide +kernel
theorem dX9_plays_35 : decode cX9_plays 35 = .ok (.getfield 129, 3) := by decide +kernel
theorem dX9_plays_38 : decode cX9_plays 38 = .ok (.istore_n 1, 1) := by decide +kernel
theorem dX9_plays_39 : decode cX9_plays 39 = .ok (.aload_n 0, 1) := by decide +kernel
theorem dX9_plays_40 : decode cX9_plays 40 = .ok (.invokevirtual 163, 3) := by decide +kernel
theorem dX9_plays_43 : decode cX9_plays 43 = .ok (.istore_n 3, 1) := by decide +kernel
theorem dX9_plays_44 : decode cX9_plays 44 = .ok (.iload_n 3, 1) := by decide +kernel
theorem dX9_plays_45 : decode cX9_plays 45 = .ok (.ifCond .eq 10, 3) := by decide +kernel
theorem dX9_plays_48 : decode cX9_plays 48 = .ok (.aload_n 0, 1) := by decide +kernel
theorem dX9_plays_49 : decode cX9_plays 49 = .ok (.invokevirtual 167, 3) := by decide +kernel
theorem dX9_plays_52 : decode cX9_plays 52 = .ok (.goto 4, 3) := by decide +kernel
theorem dX9_plays_55 : decode cX9_plays 55 = .ok (.iconst 0, 1) := by decide +kernel
theorem dX9_plays_56 : decode cX9_plays 56 = .ok (.istore 4, 2) := by decide +kernel
theorem dX9_plays_58 : decode cX9_plays 58 = .ok (.iload_n 3, 1) := by decide +kernel
theorem dX9_plays_59 : decode cX9_plays 59 = .ok (.ifCond .eq 14, 3) := by decide +kernel
theorem dX9_plays_62 : decode cX9_plays 62 = .ok (.iload 4, 2) := by decide +kernel
theorem dX9_plays_64 : decode cX9_plays 64 = .ok (.ldc 53, 2) := by decide +kernel
theorem dX9_plays_66 : decode cX9_plays 66 = .ok (.if_icmp .le 7, 3) := by decide +kernel
theorem dX9_plays_69 : decode cX9_plays 69 = .ok (.iconst 1, 1) := by decide +kernel
theorem dX9_plays_70 : decode cX9_plays 70 = .ok (.goto 4, 3) := by decide +kernel
theorem dX9_plays_73 : decode cX9_plays 73 = .ok (.iconst 0, 1) := by decide +kernel
theorem dX9_plays_74 : decode cX9_plays 74 = .ok (.istore_n 2, 1) := by decide +kernel
theorem dX9_plays_75 : decode cX9_plays 75 = .ok (.aload_n 0, 1) := by decide +kernel
theorem dX9_plays_76 : decode cX9_plays 76 = .ok (.iload_n 3, 1) := by decide +kernel
theorem dX9_plays_77 : decode cX9_plays 77 = .ok (.ifCond .eq 8, 3) := by decide +kernel
theorem dX9_plays_80 : decode cX9_plays 80 = .ok (.iload 4, 2) := by decide +kernel
theorem dX9_plays_82 : decode cX9_plays 82 = .ok (.goto 4, 3) := by decide +kernel
theorem dX9_plays_85 : decode cX9_plays 85 = .ok (.iconst 0, 1) := by decide +kernel
theorem dX9_plays_86 : decode cX9_plays 86 = .ok (.putfield 170, 3) := by decide +kernel
theorem dX9_plays_89 : decode cX9_plays 89 = .ok (.aload_n 0, 1) := by decide +kernel
theorem dX9_plays_90 : decode cX9_plays 90 = .ok (.dup, 1) := by decide +kernel
theorem dX9_plays_91 : decode cX9_plays 91 = .ok (.getfield 160, 3) := by decide +kernel
theorem dX9_plays_94 : decode cX9_plays 94 = .ok (.iconst 1, 1) := by decide +kernel
theorem dX9_plays_95 : decode cX9_plays 95 = .ok (.iadd, 1) := by decide +kernel
theorem dX9_plays_96 : decode cX9_plays 96 = .ok (.putfield 160, 3) := by decide +kernel
theorem dX9_plays_99 : decode cX9_plays 99 = .ok (.goto (-80), 3) := by decide +kernel
theorem dX9_plays_102 : decode cX9_plays 102 = .ok (.aload_n 0, 1) := by decide +kernel
theorem dX9_plays_103 : decode cX9_plays 103 = .ok (.iconst 0, 1) := by decide +kernel
theorem dX9_plays_104 : decode cX9_plays 104 = .ok (.putfield 34, 3) := by decide +kernel
theorem dX9_plays_107 : decode cX9_plays 107 = .ok (.iload_n 2, 1) := by decide +kernel
theorem dX9_plays_108 : decode cX9_plays 108 = .ok (.ifCond .eq 8, 3) := by decide +kernel
theorem dX9_plays_111 : decode cX9_plays 111 = .ok (.ldc 59, 2) := by decide +kernel
theorem dX9_plays_113 : decode cX9_plays 113 = .ok (.goto 4, 3) := by decide +kernel
theorem dX9_plays_116 : decode cX9_plays 116 = .ok (.iload_n 1, 1) := by decide +kernel
theorem dX9_plays_117 : decode cX9_plays 117 = .ok (.ireturn, 1) := by decide +kernel
set_option maxRecDepth 20000 in
theorem ggX9_fault_X9_in : GoodIn wsX9_fault wsX9_in := goodIn_r _ [9] (by decide +kernel) (by decide +kernel)
set_option maxRecDepth 20000 in
theorem gX9_fault_X9_in : GoodIn wsX9_fault (va_wsS RX9 42 yX9_in wsX9_in) := goodIn_app (goodIn_of _ (by decide +kernel)) ggX9_fault_X9_in
set_option maxRecDepth 20000 in
theorem ggX9_fault_X9_copies : GoodIn wsX9_fault wsX9_copies := goodIn_r _ [12] (by decide +kernel) (by decide +kernel)
set_option maxRecDepth 20000 in
theorem gX9_fault_X9_copies : GoodIn wsX9_fault (va_wsS RX9 110 yX9_copies wsX9_copies) := goodIn_app (goodIn_of _ (by decide +kernel)) ggX9_fault_X9_copies
set_option maxRecDepth 20000 in
theorem ggX9_fault_X9_plays : GoodIn wsX9_fault wsX9_plays := goodIn_r _ [16, 17, 18, 19, 20, 1, 5, 4, 21, 22, 23, 8, 24, 25, 26, 27, 28, 29, 30, 31, 32, 33, 34, 6, 7, 9, 35, 36, 37, 38, 39, 40, 41, 42, 43, 44, 45, 46, 47, 48, 49, 50, 51, 52, 2, 53, 54, 55, 56, 57, 58, 59, 60, 61, 62, 63, 64, 65, 66, 67, 68, 69, 70, 71, 72, 73, 74, 75, 76, 77, 78, 79, 80, 81, 82, 83, 84, 85, 86, 87, 88, 89, 90, 91, 92, 93, 94, 95, 96, 97, 98, 99, 100, 101, 102, 103, 104, 105, 106, 10, 11, 12, 107, 108, 109, 110, 111, 112, 113, 114, 115, 116, 117, 118, 119, 120, 121, 122, 123, 124, 125, 126, 127, 128, 129, 130, 131, 132, 133, 134, 135, 136, 137, 138, 139, 140, 141, 142, 143, 144, 145, 146, 147, 148, 149, 150, 151] (by decide +kernel) (by decide +kernel)
set_option maxRecDepth 20000 in
theorem gX9_fault_X9_plays : GoodIn wsX9_fault (wsV RX9 173 RX9 yX9_plays wsX9_plays) := goodIn_app (goodIn_of _ (by decide +kernel)) ggX9_fault_X9_plays
theorem dX9_fault_0 : decode cX9_fault 0 = .ok (.iload_n 1, 1) := by decide +kernel
theorem dX9_fault_1 : decode cX9_fault 1 = .ok (.iconst 0, 1) := by decide +kernel
theorem dX9_fault_2 : decode cX9_fault 2 = .ok (.iconst 2, 1) := by decide +kernel
theorem dX9_fault_3 : decode cX9_fault 3 = .ok (.invokestatic 42, 3) := by decide +kernel
theorem dX9_fault_6 : decode cX9_fault 6 = .ok (.ifCond .ne 6, 3) := by decide +kernel
theorem dX9_fault_9 : decode cX9_fault 9 = .ok (.ldc 53, 2) := by decide +kernel
theorem dX9_fault_11 : decode cX9_fault 11 = .ok (.ireturn, 1) := by decide +kernel
theorem dX9_fault_12 : decode cX9_fault 12 = .ok (.aload_n 0, 1) := by decide +kernel
theorem dX9_fault_13 : decode cX9_fault 13 = .ok (.getfield 7, 3) := by decide +kernel
theorem dX9_fault_16 : decode cX9_fault 16 = .ok (.aload_n 0, 1) := by decide +kernel
theorem dX9_fault_17 : decode cX9_fault 17 = .ok (.getfield 16, 3) := by decide +kernel
theorem dX9_fault_20 : decode cX9_fault 20 = .ok (.invokestatic 110, 3) := by decide +kernel
theorem dX9_fault_23 : decode cX9_fault 23 = .ok (.aload_n 0, 1) := by decide +kernel
theorem dX9_fault_24 : decode cX9_fault 24 = .ok (.invokevirtual 173, 3) := by decide +kernel
theorem dX9_fault_27 : decode cX9_fault 27 = .ok (.istore_n 2, 1) := by decide +kernel
theorem dX9_fault_28 : decode cX9_fault 28 = .ok (.aload_n 0, 1) := by decide +kernel
theorem dX9_fault_29 : decode cX9_fault 29 = .ok (.getfield 16, 3) := by decide +kernel
theorem dX9_fault_32 : decode cX9_fault 32 = .ok (.aload_n 0, 1) := by decide +kernel
theorem dX9_fault_33 : decode cX9_fault 33 = .ok (.getfield 7, 3) := by decide +kernel
theorem dX9_fault_36 : decode cX9_fault 36 = .ok (.invokestatic 110, 3) := by decide +kernel
theorem dX9_fault_39 : decode cX9_fault 39 = .ok (.iload_n 2, 1) := by decide +kernel
theorem dX9_fault_40 : decode cX9_fault 40 = .ok (.ldc 59, 2) := by decide +kernel
theorem dX9_fault_42 : decode cX9_fault 42 = .ok (.if_icmp .eq 7, 3) := by decide +kernel
theorem dX9_fault_45 : decode cX9_fault 45 = .ok (.iload_n 1, 1) := by decide +kernel
theorem dX9_fault_46 : decode cX9_fault 46 = .ok (.ifCond .ne 7, 3) := by decide +kernel
theorem dX9_fault_49 : decode cX9_fault 49 = .ok (.iload_n 2, 1) := by decide +kernel
theorem dX9_fault_50 : decode cX9_fault 50 = .ok (.goto 39, 3) := by decide +kernel
theorem dX9_fault_53 : decode cX9_fault 53 = .ok (.iload_n 1, 1) := by decide +kernel
theorem dX9_fault_54 : decode cX9_fault 54 = .ok (.iconst 1, 1) := by decide +kernel
theorem dX9_fault_55 : decode cX9_fault 55 = .ok (.if_icmp .ne 18, 3) := by decide +kernel
theorem dX9_fault_58 : decode cX9_fault 58 = .ok (.aload_n 0, 1) := by decide +kernel
theorem dX9_fault_59 : decode cX9_fault 59 = .ok (.getfield 170, 3) := by decide +kernel
theorem dX9_fault_62 : decode cX9_fault 62 = .ok (.ifCond .ne 7, 3) := by decide +kernel
theorem dX9_fault_65 : decode cX9_fault 65 = .ok (.iconst 1, 1) := by decide +kernel
theorem dX9_fault_66 : decode cX9_fault 66 = .ok (.goto 23, 3) := by decide +kernel
theorem dX9_fault_69 : decode cX9_fault 69 = .ok (.iconst 2, 1) := by decide +kernel
theorem dX9_fault_70 : decode cX9_fault 70 = .ok (.goto 19, 3) := by decide +kernel
theorem dX9_fault_73 : decode cX9_fault 73 = .ok (.aload_n 0, 1) := by decide +kernel
theorem dX9_fault_74 : decode cX9_fault 74 = .ok (.getfield 170, 3) := by decide +kernel
theorem dX9_fault_77 : decode cX9_fault 77 = .ok (.ifCond .ne 8, 3) := by decide +kernel
theorem dX9_fault_80 : decode cX9_fault 80 = .ok (.ldc 59, 2) := by decide +kernel
theorem dX9_fault_82 : decode cX9_fault 82 = .ok (.goto 7, 3) := by decide +kernel
theorem dX9_fault_85 : decode cX9_fault 85 = .ok (.aload_n 0, 1) := by decide +kernel
theorem dX9_fault_86 : decode cX9_fault 86 = .ok (.getfield 170, 3) := by decide +kernel
theorem dX9_fault_89 : decode cX9_fault 89 = .ok (.ireturn, 1) := by decide +kernel
set_option maxRecDepth 20000 in
theorem ggX9_play_X9_copies : GoodIn wsX9_play wsX9_copies := goodIn_r _ [9] (by decide +kernel) (by decide +kernel)
set_option maxRecDepth 20000 in
theorem gX9_play_X9_copies : GoodIn wsX9_play (va_wsS RX9 110 yX9_copies wsX9_copies) := goodIn_app (goodIn_of _ (by decide +kernel)) ggX9_play_X9_copies
set_option maxRecDepth 20000 in
theorem ggX9_play_X9_plays : GoodIn wsX9_play wsX9_plays := goodIn_r _ [13, 14, 15, 5, 16, 17, 18, 3, 19, 20, 21, 8, 22, 23, 24, 25, 26, 27, 28, 29, 30, 31, 32, 33, 34, 35, 36, 37, 38, 39, 40, 41, 42, 43, 44, 45, 46, 47, 48, 4, 49, 50, 51, 52, 1, 53, 54, 55, 56, 57, 58, 59, 60, 61, 62, 63, 64, 65, 66, 67, 68, 69, 70, 71, 72, 73, 74, 75, 76, 77, 78, 79, 80, 81, 82, 83, 84, 85, 86, 87, 88, 89, 90, 91, 92, 93, 94, 95, 96, 97, 98, 99, 100, 101, 102, 103, 104, 105, 106, 6, 7, 9, 107, 108, 109, 110, 111, 112, 113, 114, 115, 116, 117, 118, 119, 120, 121, 122, 123, 124, 125, 126, 127, 128, 129, 130, 131, 132, 133, 134, 135, 136, 137, 138, 139, 140, 141, 142, 143, 144, 145, 146, 147, 148, 149, 150, 151] (by decide +kernel) (by decide +kernel)
set_option maxRecDepth 20000 in
theorem gX9_play_X9_plays : GoodIn wsX9_play (wsV RX9 173 RX9 yX9_plays wsX9_plays) := goodIn_app (goodIn_of _ (by decide +kernel)) ggX9_play_X9_plays
set_option maxRecDepth 20000 in
theorem ggX9_play_X9_changes : GoodIn wsX9_play wsX9_changes := goodIn_r _ [62, 14, 63, 64, 1, 133, 134, 135, 136, 137, 138, 139, 140, 141, 142, 143, 144, 145, 146, 147, 148, 149, 150, 151] (by decide +kernel) (by decide +kernel)
set_option maxRecDepth 20000 in
theorem gX9_play_X9_changes : GoodIn wsX9_play (wsV RX9 54 RX9 yX9_changes wsX9_changes) := goodIn_app (goodIn_of _ (by decide +kernel)) ggX9_play_X9_changes
theorem dX9_play_0 : decode cX9_play 0 = .ok (.aload_n 0, 1) := by decide +kernel
theorem dX9_play_1 : decode cX9_play 1 = .ok (.getfield 7, 3) := by decide +kernel
theorem dX9_play_4 : decode cX9_play 4 = .ok (.aload_n 0, 1) := by decide +kernel
theorem dX9_play_5 : decode cX9_play 5 = .ok (.getfield 16, 3) := by decide +kernel
theorem dX9_play_8 : decode cX9_play 8 = .ok (.invokestatic 110, 3) := by decide +kernel
theorem dX9_play_11 : decode cX9_play 11 = .ok (.aload_n 0, 1) := by decide +kernel
theorem dX9_play_12 : decode cX9_play 12 = .ok (.invokevirtual 173, 3) := by decide +kernel
theorem dX9_play_15 : decode cX9_play 15 = .ok (.istore_n 1, 1) := by decide +kernel
theorem dX9_play_16 : decode cX9_play 16 = .ok (.aload_n 0, 1) := by decide +kernel
theorem dX9_play_17 : decode cX9_play 17 = .ok (.getfield 16, 3) := by decide +kernel
theorem dX9_play_20 : decode cX9_play 20 = .ok (.aload_n 0, 1) := by decide +kernel
theorem dX9_play_21 : decode cX9_play 21 = .ok (.getfield 7, 3) := by decide +kernel
theorem dX9_play_24 : decode cX9_play 24 = .ok (.invokestatic 110, 3) := by decide +kernel
theorem dX9_play_27 : decode cX9_play 27 = .ok (.iload_n 1, 1) := by decide +kernel
theorem dX9_play_28 : decode cX9_play 28 = .ok (.ldc 59, 2) := by decide +kernel
theorem dX9_play_30 : decode cX9_play 30 = .ok (.if_icmp .eq 6, 3) := by decide +kernel
theorem dX9_play_33 : decode cX9_play 33 = .ok (.ldc 58, 2) := by decide +kernel
theorem dX9_play_35 : decode cX9_play 35 = .ok (.ireturn, 1) := by decide +kernel
theorem dX9_play_36 : decode cX9_play 36 = .ok (.aload_n 0, 1) := by decide +kernel
theorem dX9_play_37 : decode cX9_play 37 = .ok (.invokevirtual 54, 3) := by decide +kernel
theorem dX9_play_40 : decode cX9_play 40 = .ok (.aload_n 0, 1) := by decide +kernel
theorem dX9_play_41 : decode cX9_play 41 = .ok (.invokevirtual 173, 3) := by decide +kernel
theorem dX9_play_44 : decode cX9_play 44 = .ok (.ldc 59, 2) := by decide +kernel
theorem dX9_play_46 : decode cX9_play 46 = .ok (.if_icmp .ne 10, 3) := by decide +kernel
theorem dX9_play_49 : decode cX9_play 49 = .ok (.aload_n 0, 1) := by decide +kernel
theorem dX9_play_50 : decode cX9_play 50 = .ok (.getfield 160, 3) := by decide +kernel
theorem dX9_play_53 : decode cX9_play 53 = .ok (.goto 5, 3) := by decide +kernel
theorem dX9_play_56 : decode cX9_play 56 = .ok (.ldc 59, 2) := by decide +kernel
theorem dX9_play_58 : decode cX9_play 58 = .ok (.ireturn, 1) := by decide +kernel
theorem dJxf58ca_isNaN_12338_0 : decode cJxf58ca_isNaN_12338 0 = .ok (.fload_n 0, 1) := by decide +kernel
theorem dJxf58ca_isNaN_12338_1 : decode cJxf58ca_isNaN_12338 1 = .ok (.fload_n 0, 1) := by decide +kernel
theorem dJxf58ca_isNaN_12338_2 : decode cJxf58ca_isNaN_12338 2 = .ok (.fcmp .l, 1) := by decide +kernel
theorem dJxf58ca_isNaN_12338_3 : decode cJxf58ca_isNaN_12338 3 = .ok (.ifCond .eq 7, 3) := by decide +kernel
theorem dJxf58ca_isNaN_12338_6 : decode cJxf58ca_isNaN_12338 6 = .ok (.iconst 1, 1) := by decide +kernel
theorem dJxf58ca_isNaN_12338_7 : decode cJxf58ca_isNaN_12338 7 = .ok (.goto 4, 3) := by decide +kernel
theorem dJxf58ca_isNaN_12338_10 : decode cJxf58ca_isNaN_12338 10 = .ok (.iconst 0, 1) := by decide +kernel
theorem dJxf58ca_isNaN_12338_11 : decode cJxf58ca_isNaN_12338 11 = .ok (.ireturn, 1) := by decide +kernel
set_option maxRecDepth 20000 in
theorem ggJxf58ca_floatToIntBits_5c35a_Jxf58ca_isNaN_12338 : GoodIn wsJxf58ca_floatToIntBits_5c35a wsJxf58ca_isNaN_12338 := goodIn_r _ [9] (by decide +kernel) (by decide +kernel)
set_option maxRecDepth 20000 in
theorem gJxf58ca_floatToIntBits_5c35a_Jxf58ca_isNaN_12338 : GoodIn wsJxf58ca_floatToIntBits_5c35a (va_wsS RJxf58ca 59 yJxf58ca_isNaN_12338 wsJxf58ca_isNaN_12338) := goodIn_app (goodIn_of _ (by decide +kernel)) ggJxf58ca_floatToIntBits_5c35a_Jxf58ca_isNaN_12338
theorem dJxf58ca_floatToIntBits_5c35a_0 : decode cJxf58ca_floatToIntBits_5c35a 0 = .ok (.fload_n 0, 1) := by decide +kernel
theorem dJxf58ca_floatToIntBits_5c35a_1 : decode cJxf58ca_floatToIntBits_5c35a 1 = .ok (.invokestatic 59, 3) := by decide +kernel
theorem dJxf58ca_floatToIntBits_5c35a_4 : decode cJxf58ca_floatToIntBits_5c35a 4 = .ok (.ifCond .ne 8, 3) := by decide +kernel
theorem dJxf58ca_floatToIntBits_5c35a_7 : decode cJxf58ca_floatToIntBits_5c35a 7 = .ok (.fload_n 0, 1) := by decide +kernel
theorem dJxf58ca_floatToIntBits_5c35a_8 : decode cJxf58ca_floatToIntBits_5c35a 8 = .ok (.invokestatic 74, 3) := by decide +kernel
theorem dJxf58ca_floatToIntBits_5c35a_11 : decode cJxf58ca_floatToIntBits_5c35a 11 = .ok (.ireturn, 1) := by decide +kernel
theorem dJxf58ca_floatToIntBits_5c35a_12 : decode cJxf58ca_floatToIntBits_5c35a 12 = .ok (.ldc 77, 2) := by decide +kernel
theorem dJxf58ca_floatToIntBits_5c35a_14 : decode cJxf58ca_floatToIntBits_5c35a 14 = .ok (.ireturn, 1) := by decide +kernel
theorem dJ9_abs_0f7a4_0 : decode cJ9_abs_0f7a4 0 = .ok (.iload_n 0, 1) := by decide +kernel
theorem dJ9_abs_0f7a4_1 : decode cJ9_abs_0f7a4 1 = .ok (.ifCond .ge 8, 3) := by decide +kernel
theorem dJ9_abs_0f7a4_4 : decode cJ9_abs_0f7a4 4 = .ok (.iload_n 0, 1) := by decide +kernel
theorem dJ9_abs_0f7a4_5 : decode cJ9_abs_0f7a4 5 = .ok (.ineg, 1) := by decide +kernel
theorem dJ9_abs_0f7a4_6 : decode cJ9_abs_0f7a4 6 = .ok (.goto 4, 3) := by decide +kernel
theorem dJ9_abs_0f7a4_9 : decode cJ9_abs_0f7a4 9 = .ok (.iload_n 0, 1) := by decide +kernel
theorem dJ9_abs_0f7a4_10 : decode cJ9_abs_0f7a4 10 = .ok (.ireturn, 1) := by decide +kernel
theorem dJ9_max_7cf53_0 : decode cJ9_max_7cf53 0 = .ok (.iload_n 0, 1) := by decide +kernel
theorem dJ9_max_7cf53_1 : decode cJ9_max_7cf53 1 = .ok (.iload_n 1, 1) := by decide +kernel
theorem dJ9_max_7cf53_2 : decode cJ9_max_7cf53 2 = .ok (.if_icmp .lt 7, 3) := by decide +kernel
theorem dJ9_max_7cf53_5 : decode cJ9_max_7cf53 5 = .ok (.iload_n 0, 1) := by decide +kernel
theorem dJ9_max_7cf53_6 : decode cJ9_max_7cf53 6 = .ok (.goto 4, 3) := by decide +kernel
theorem dJ9_max_7cf53_9 : decode cJ9_max_7cf53 9 = .ok (.iload_n 1, 1) := by decide +kernel
theorem dJ9_max_7cf53_10 : decode cJ9_max_7cf53 10 = .ok (.ireturn, 1) := by decide +kernel
theorem dJ9_min_7cf53_0 : decode cJ9_min_7cf53 0 = .ok (.iload_n 0, 1) := by decide +kernel
theorem dJ9_min_7cf53_1 : decode cJ9_min_7cf53 1 = .ok (.iload_n 1, 1) := by decide +kernel
theorem dJ9_min_7cf53_2 : decode cJ9_min_7cf53 2 = .ok (.if_icmp .gt 7, 3) := by decide +kernel
theorem dJ9_min_7cf53_5 : decode cJ9_min_7cf53 5 = .ok (.iload_n 0, 1) := by decide +kernel
theorem dJ9_min_7cf53_6 : decode cJ9_min_7cf53 6 = .ok (.goto 4, 3) := by decide +kernel
theorem dJ9_min_7cf53_9 : decode cJ9_min_7cf53 9 = .ok (.iload_n 1, 1) := by decide +kernel
theorem dJ9_min_7cf53_10 : decode cJ9_min_7cf53 10 = .ok (.ireturn, 1) := by decide +kernel
abbrev vwCl : List vw_C := [(RX0, TX0, 1), (RX1, TX1, 2), (RX2, TX2, 4), (RX3, TX3, 2), (RX4, TX4, 5), (RX5, TX5, 4), (RX6, TX6, 6), (RX7, TX7, 13), (RX8, TX8, 6), (RX9, TX9, 19)]

