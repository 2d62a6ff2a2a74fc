theorem dX9_moveOf_0 : decode cX9_moveOf 0 = .ok (.iload_n 1, 1) := by decide +kernel
theorem dX9_moveOf_1 : decode cX9_moveOf 1 = .ok (.ifCond .lt 12, 3) := by decide +kernel
theorem dX9_moveOf_4 : decode cX9_moveOf 4 = .ok (.iload_n 2, 1) := by decide +kernel
theorem dX9_moveOf_5 : decode cX9_moveOf 5 = .ok (.iconst 0, 1) := by decide +kernel
theorem dX9_moveOf_6 : decode cX9_moveOf 6 = .ok (.iconst 4, 1) := by decide +kernel
theorem dX9_moveOf_7 : decode cX9_moveOf 7 = .ok (.invokestatic 42, 3) := by decide +kernel
theorem dX9_moveOf_10 : decode cX9_moveOf 10 = .ok (.ifCond .ne 6, 3) := by decide +kernel
theorem dX9_moveOf_13 : decode cX9_moveOf 13 = .ok (.ldc 53, 2) := by decide +kernel
theorem dX9_moveOf_15 : decode cX9_moveOf 15 = .ok (.ireturn, 1) := by decide +kernel
theorem dX9_moveOf_16 : decode cX9_moveOf 16 = .ok (.iload_n 1, 1) := by decide +kernel
theorem dX9_moveOf_17 : decode cX9_moveOf 17 = .ok (.aload_n 0, 1) := by decide +kernel
theorem dX9_moveOf_18 : decode cX9_moveOf 18 = .ok (.getfield 7, 3) := by decide +kernel
theorem dX9_moveOf_21 : decode cX9_moveOf 21 = .ok (.bipush 37, 2) := by decide +kernel
theorem dX9_moveOf_23 : decode cX9_moveOf 23 = .ok (.iaload, 1) := by decide +kernel
theorem dX9_moveOf_24 : decode cX9_moveOf 24 = .ok (.if_icmp .lt 8, 3) := by decide +kernel
theorem dX9_moveOf_27 : decode cX9_moveOf 27 = .ok (.ldc 59, 2) := by decide +kernel
theorem dX9_moveOf_29 : decode cX9_moveOf 29 = .ok (.goto 16, 3) := by decide +kernel
theorem dX9_moveOf_32 : decode cX9_moveOf 32 = .ok (.aload_n 0, 1) := by decide +kernel
theorem dX9_moveOf_33 : decode cX9_moveOf 33 = .ok (.getfield 7, 3) := by decide +kernel
theorem dX9_moveOf_36 : decode cX9_moveOf 36 = .ok (.bipush 38, 2) := by decide +kernel
theorem dX9_moveOf_38 : decode cX9_moveOf 38 = .ok (.iconst 5, 1) := by decide +kernel
theorem dX9_moveOf_39 : decode cX9_moveOf 39 = .ok (.iload_n 1, 1) := by decide +kernel
theorem dX9_moveOf_40 : decode cX9_moveOf 40 = .ok (.imul, 1) := by decide +kernel
theorem dX9_moveOf_41 : decode cX9_moveOf 41 = .ok (.iadd, 1) := by decide +kernel
theorem dX9_moveOf_42 : decode cX9_moveOf 42 = .ok (.iload_n 2, 1) := by decide +kernel
theorem dX9_moveOf_43 : decode cX9_moveOf 43 = .ok (.iadd, 1) := by decide +kernel
theorem dX9_moveOf_44 : decode cX9_moveOf 44 = .ok (.iaload, 1) := by decide +kernel
theorem dX9_moveOf_45 : decode cX9_moveOf 45 = .ok (.ireturn, 1) := by decide +kernel
set_option maxRecDepth 20000 in
theorem ggX9_count_X9_in : GoodIn wsX9_count wsX9_in := goodIn_r _ [8] (by decide +kernel) (by decide +kernel)
set_option maxRecDepth 20000 in
theorem gX9_count_X9_in : GoodIn wsX9_count (va_wsS RX9 42 yX9_in wsX9_in) := goodIn_app (goodIn_of _ (by decide +kernel)) ggX9_count_X9_in
theorem dX9_count_0 : decode cX9_count 0 = .ok (.iload_n 1, 1) := by decide +kernel
theorem dX9_count_1 : decode cX9_count 1 = .ok (.tableswitch 57 0 3 #[31, 39, 47, 52], 31) := by decide +kernel
theorem dX9_count_32 : decode cX9_count 32 = .ok (.aload_n 0, 1) := by decide +kernel
theorem dX9_count_33 : decode cX9_count 33 = .ok (.getfield 7, 3) := by decide +kernel
theorem dX9_count_36 : decode cX9_count 36 = .ok (.bipush 18, 2) := by decide +kernel
theorem dX9_count_38 : decode cX9_count 38 = .ok (.iaload, 1) := by decide +kernel
theorem dX9_count_39 : decode cX9_count 39 = .ok (.ireturn, 1) := by decide +kernel
theorem dX9_count_40 : decode cX9_count 40 = .ok (.aload_n 0, 1) := by decide +kernel
theorem dX9_count_41 : decode cX9_count 41 = .ok (.getfield 7, 3) := by decide +kernel
theorem dX9_count_44 : decode cX9_count 44 = .ok (.bipush 37, 2) := by decide +kernel
theorem dX9_count_46 : decode cX9_count 46 = .ok (.iaload, 1) := by decide +kernel
theorem dX9_count_47 : decode cX9_count 47 = .ok (.ireturn, 1) := by decide +kernel
theorem dX9_count_48 : decode cX9_count 48 = .ok (.aload_n 0, 1) := by decide +kernel
theorem dX9_count_49 : decode cX9_count 49 = .ok (.getfield 38, 3) := by decide +kernel
theorem dX9_count_52 : decode cX9_count 52 = .ok (.ireturn, 1) := by decide +kernel
theorem dX9_count_53 : decode cX9_count 53 = .ok (.aload_n 0, 1) := by decide +kernel
theorem dX9_count_54 : decode cX9_count 54 = .ok (.getfield 117, 3) := by decide +kernel
theorem dX9_count_57 : decode cX9_count 57 = .ok (.ireturn, 1) := by decide +kernel
theorem dX9_count_58 : decode cX9_count 58 = .ok (.iload_n 1, 1) := by decide +kernel
theorem dX9_count_59 : decode cX9_count 59 = .ok (.bipush 10, 2) := by decide +kernel
theorem dX9_count_61 : decode cX9_count 61 = .ok (.bipush 17, 2) := by decide +kernel
theorem dX9_count_63 : decode cX9_count 63 = .ok (.invokestatic 42, 3) := by decide +kernel
theorem dX9_count_66 : decode cX9_count 66 = .ok (.ifCond .eq 15, 3) := by decide +kernel
theorem dX9_count_69 : decode cX9_count 69 = .ok (.aload_n 0, 1) := by decide +kernel
theorem dX9_count_70 : decode cX9_count 70 = .ok (.getfield 7, 3) := by decide +kernel
theorem dX9_count_73 : decode cX9_count 73 = .ok (.iload_n 1, 1) := by decide +kernel
theorem dX9_count_74 : decode cX9_count 74 = .ok (.bipush 10, 2) := by decide +kernel
theorem dX9_count_76 : decode cX9_count 76 = .ok (.isub, 1) := by decide +kernel
theorem dX9_count_77 : decode cX9_count 77 = .ok (.iaload, 1) := by decide +kernel
theorem dX9_count_78 : decode cX9_count 78 = .ok (.goto 5, 3) := by decide +kernel
theorem dX9_count_81 : decode cX9_count 81 = .ok (.ldc 53, 2) := by decide +kernel
theorem dX9_count_83 : decode cX9_count 83 = .ok (.ireturn, 1) := by decide +kernel
set_option maxRecDepth 20000 in
theorem ggX9_tries_X9_copies : GoodIn wsX9_tries wsX9_copies := goodIn_r _ [7] (by decide +kernel) (by decide +kernel)
set_option maxRecDepth 20000 in
theorem gX9_tries_X9_copies : GoodIn wsX9_tries (va_wsS RX9 110 yX9_copies wsX9_copies) := goodIn_app (goodIn_of _ (by decide +kernel)) ggX9_tries_X9_copies
set_option maxRecDepth 20000 in
theorem ggX9_tries_X9_lays : GoodIn wsX9_tries wsX9_lays := goodIn_r _ [11, 12, 13, 1, 14, 46, 47, 48, 49, 50, 51, 52, 53, 54, 55, 56, 57, 58, 59, 60, 61, 62, 63, 64] (by decide +kernel) (by decide +kernel)
set_option maxRecDepth 20000 in
theorem gX9_tries_X9_lays : GoodIn wsX9_tries (wsV RX9 66 RX9 yX9_lays wsX9_lays) := goodIn_app (goodIn_of _ (by decide +kernel)) ggX9_tries_X9_lays
set_option maxRecDepth 20000 in
theorem ggX9_tries_X9_goes : GoodIn wsX9_tries wsX9_goes := goodIn_r _ [18, 1, 3, 19, 20, 21, 13, 22, 23, 24, 6, 25, 12, 26, 27, 28, 29, 30, 31, 32, 33, 34, 35, 36, 37, 38, 39, 40, 41, 42, 43, 44, 45, 46, 47, 48, 49, 50, 51, 52, 53, 54, 55, 56, 57, 58, 59, 60, 61, 62, 63, 64] (by decide +kernel) (by decide +kernel)
set_option maxRecDepth 20000 in
theorem gX9_tries_X9_goes : GoodIn wsX9_tries (wsV RX9 93 RX9 yX9_goes wsX9_goes) := goodIn_app (goodIn_of _ (by decide +kernel)) ggX9_tries_X9_goes
theorem dX9_tries_0 : decode cX9_tries 0 = .ok (.aload_n 0, 1) := by decide +kernel
theorem dX9_tries_1 : decode cX9_tries 1 = .ok (.getfield 7, 3) := by decide +kernel
theorem dX9_tries_4 : decode cX9_tries 4 = .ok (.aload_n 0, 1) := by decide +kernel
theorem dX9_tries_5 : decode cX9_tries 5 = .ok (.getfield 19, 3) := by decide +kernel
theorem dX9_tries_8 : decode cX9_tries 8 = .ok (.invokestatic 110, 3) := by decide +kernel
theorem dX9_tries_11 : decode cX9_tries 11 = .ok (.aload_n 0, 1) := by decide +kernel
theorem dX9_tries_12 : decode cX9_tries 12 = .ok (.getfield 7, 3) := by decide +kernel
theorem dX9_tries_15 : decode cX9_tries 15 = .ok (.iconst 2, 1) := by decide +kernel
theorem dX9_tries_16 : decode cX9_tries 16 = .ok (.iload_n 2, 1) := by decide +kernel
theorem dX9_tries_17 : decode cX9_tries 17 = .ok (.iastore, 1) := by decide +kernel
theorem dX9_tries_18 : decode cX9_tries 18 = .ok (.aload_n 0, 1) := by decide +kernel
theorem dX9_tries_19 : decode cX9_tries 19 = .ok (.invokevirtual 66, 3) := by decide +kernel
theorem dX9_tries_22 : decode cX9_tries 22 = .ok (.aload_n 0, 1) := by decide +kernel
theorem dX9_tries_23 : decode cX9_tries 23 = .ok (.iload_n 1, 1) := by decide +kernel
theorem dX9_tries_24 : decode cX9_tries 24 = .ok (.invokevirtual 93, 3) := by decide +kernel
theorem dX9_tries_27 : decode cX9_tries 27 = .ok (.istore_n 3, 1) := by decide +kernel
theorem dX9_tries_28 : decode cX9_tries 28 = .ok (.aload_n 0, 1) := by decide +kernel
theorem dX9_tries_29 : decode cX9_tries 29 = .ok (.getfield 19, 3) := by decide +kernel
theorem dX9_tries_32 : decode cX9_tries 32 = .ok (.aload_n 0, 1) := by decide +kernel
theorem dX9_tries_33 : decode cX9_tries 33 = .ok (.getfield 7, 3) := by decide +kernel
theorem dX9_tries_36 : decode cX9_tries 36 = .ok (.invokestatic 110, 3) := by decide +kernel
theorem dX9_tries_39 : decode cX9_tries 39 = .ok (.iload_n 3, 1) := by decide +kernel
theorem dX9_tries_40 : decode cX9_tries 40 = .ok (.ifCond .ne 7, 3) := by decide +kernel
theorem dX9_tries_43 : decode cX9_tries 43 = .ok (.iconst 0, 1) := by decide +kernel
theorem dX9_tries_44 : decode cX9_tries 44 = .ok (.goto 7, 3) := by decide +kernel
theorem dX9_tries_47 : decode cX9_tries 47 = .ok (.aload_n 0, 1) := by decide +kernel
theorem dX9_tries_48 : decode cX9_tries 48 = .ok (.getfield 80, 3) := by decide +kernel
theorem dX9_tries_51 : decode cX9_tries 51 = .ok (.ireturn, 1) := by decide +kernel
set_option maxRecDepth 20000 in
theorem ggX9_wouldMiss_X9_in : GoodIn wsX9_wouldMiss wsX9_in := goodIn_r _ [7] (by decide +kernel) (by decide +kernel)
set_option maxRecDepth 20000 in
theorem gX9_wouldMiss_X9_in : GoodIn wsX9_wouldMiss (va_wsS RX9 42 yX9_in wsX9_in) := goodIn_app (goodIn_of _ (by decide +kernel)) ggX9_wouldMiss_X9_in
set_option maxRecDepth 20000 in
theorem ggX9_wouldMiss_X9_canMove : GoodIn wsX9_wouldMiss wsX9_canMove := goodIn_r _ [11, 2, 4, 5, 6, 7, 56, 57, 58, 59, 60, 61, 62, 63, 64, 65, 66, 67, 68, 69, 70, 71, 72, 73, 74] (by decide +kernel) (by decide +kernel)
set_option maxRecDepth 20000 in
theorem gX9_wouldMiss_X9_canMove : GoodIn wsX9_wouldMiss (wsV RX9 96 RX9 yX9_canMove wsX9_canMove) := goodIn_app (goodIn_of _ (by decide +kernel)) ggX9_wouldMiss_X9_canMove
set_option maxRecDepth 20000 in
theorem ggX9_wouldMiss_X9_tries : GoodIn wsX9_wouldMiss wsX9_tries := goodIn_r _ [15, 2, 16, 17, 18, 19, 6, 20, 21, 22, 23, 24, 25, 26, 27, 28, 29, 30, 31, 32, 33, 34, 35, 36, 37, 38, 39, 40, 41, 42, 43, 44, 45, 46, 47, 4, 5, 7, 48, 49, 50, 51, 52, 53, 54, 55, 56, 57, 58, 59, 60, 61, 62, 63, 64, 65, 66, 67, 68, 69, 70, 71, 72, 73, 74] (by decide +kernel) (by decide +kernel)
set_option maxRecDepth 20000 in
theorem gX9_wouldMiss_X9_tries : GoodIn wsX9_wouldMiss (wsV RX9 120 RX9 yX9_tries wsX9_tries) := goodIn_app (goodIn_of _ (by decide +kernel)) ggX9_wouldMiss_X9_tries
theorem dX9_wouldMiss_0 : decode cX9_wouldMiss 0 = .ok (.iload_n 1, 1) := by decide +kernel
theorem dX9_wouldMiss_1 : decode cX9_wouldMiss 1 = .ok (.sipush (-4000), 3) := by decide +kernel
theorem dX9_wouldMiss_4 : decode cX9_wouldMiss 4 = .ok (.sipush 4000, 3) := by decide +kernel
theorem dX9_wouldMiss_7 : decode cX9_wouldMiss 7 = .ok (.invokestatic 42, 3) := by decide +kernel
theorem dX9_wouldMiss_10 : decode cX9_wouldMiss 10 = .ok (.ifCond .ne 6, 3) := by decide +kernel
theorem dX9_wouldMiss_13 : decode cX9_wouldMiss 13 = .ok (.ldc 53, 2) := by decide +kernel
theorem dX9_wouldMiss_15 : decode cX9_wouldMiss 15 = .ok (.ireturn, 1) := by decide +kernel
theorem dX9_wouldMiss_16 : decode cX9_wouldMiss 16 = .ok (.aload_n 0, 1) := by decide +kernel
theorem dX9_wouldMiss_17 : decode cX9_wouldMiss 17 = .ok (.iload_n 1, 1) := by decide +kernel
theorem dX9_wouldMiss_18 : decode cX9_wouldMiss 18 = .ok (.invokevirtual 96, 3) := by decide +kernel
theorem dX9_wouldMiss_21 : decode cX9_wouldMiss 21 = .ok (.ifCond .eq 17, 3) := by decide +kernel
theorem dX9_wouldMiss_24 : decode cX9_wouldMiss 24 = .ok (.aload_n 0, 1) := by decide +kernel
theorem dX9_wouldMiss_25 : decode cX9_wouldMiss 25 = .ok (.iload_n 1, 1) := by decide +kernel
theorem dX9_wouldMiss_26 : decode cX9_wouldMiss 26 = .ok (.aload_n 0, 1) := by decide +kernel
theorem dX9_wouldMiss_27 : decode cX9_wouldMiss 27 = .ok (.getfield 7, 3) := by decide +kernel
theorem dX9_wouldMiss_30 : decode cX9_wouldMiss 30 = .ok (.iconst 2, 1) := by decide +kernel
theorem dX9_wouldMiss_31 : decode cX9_wouldMiss 31 = .ok (.iaload, 1) := by decide +kernel
theorem dX9_wouldMiss_32 : decode cX9_wouldMiss 32 = .ok (.invokevirtual 120, 3) := by decide +kernel
theorem dX9_wouldMiss_35 : decode cX9_wouldMiss 35 = .ok (.goto 5, 3) := by decide +kernel
theorem dX9_wouldMiss_38 : decode cX9_wouldMiss 38 = .ok (.ldc 58, 2) := by decide +kernel
theorem dX9_wouldMiss_40 : decode cX9_wouldMiss 40 = .ok (.ireturn, 1) := by decide +kernel
set_option maxRecDepth 20000 in
theorem ggX9_safe_X9_in : GoodIn wsX9_safe wsX9_in := goodIn_r _ [8] (by decide +kernel) (by decide +kernel)
set_option maxRecDepth 20000 in
theorem gX9_safe_X9_in : GoodIn wsX9_safe (va_wsS RX9 42 yX9_in wsX9_in) := goodIn_app (goodIn_of _ (by decide +kernel)) ggX9_safe_X9_in
set_option maxRecDepth 20000 in
theorem ggX9_safe_X9_canMove : GoodIn wsX9_safe wsX9_canMove := goodIn_r _ [12, 3, 5, 6, 7, 8, 56, 57, 58, 59, 60, 61, 62, 63, 64, 65, 66, 67, 68, 69, 70, 71, 72, 73, 74] (by decide +kernel) (by decide +kernel)
set_option maxRecDepth 20000 in
theorem gX9_safe_X9_canMove : GoodIn wsX9_safe (wsV RX9 96 RX9 yX9_canMove wsX9_canMove) := goodIn_app (goodIn_of _ (by decide +kernel)) ggX9_safe_X9_canMove
set_option maxRecDepth 20000 in
theorem ggX9_safe_X9_tries : GoodIn wsX9_safe wsX9_tries := goodIn_r _ [16, 3, 17, 18, 19, 20, 7, 21, 22, 23, 24, 25, 26, 27, 28, 29, 30, 31, 32, 4, 33, 34, 35, 36, 37, 38, 39, 40, 41, 42, 43, 44, 45, 46, 47, 5, 6, 8, 48, 49, 50, 51, 52, 53, 54, 55, 56, 57, 58, 59, 60, 61, 62, 63, 64, 65, 66, 67, 68, 69, 70, 71, 72, 73, 74] (by decide +kernel) (by decide +kernel)
set_option maxRecDepth 20000 in
theorem gX9_safe_X9_tries : GoodIn wsX9_safe (wsV RX9 120 RX9 yX9_tries wsX9_tries) := goodIn_app (goodIn_of _ (by decide +kernel)) ggX9_safe_X9_tries
theorem dX9_safe_0 : decode cX9_safe 0 = .ok (.iload_n 1, 1) := by decide +kernel
theorem dX9_safe_1 : decode cX9_safe 1 = .ok (.sipush (-4000), 3) := by decide +kernel
theorem dX9_safe_4 : decode cX9_safe 4 = .ok (.sipush 4000, 3) := by decide +kernel
theorem dX9_safe_7 : decode cX9_safe 7 = .ok (.invokestatic 42, 3) := by decide +kernel
theorem dX9_safe_10 : decode cX9_safe 10 = .ok (.ifCond .ne 6, 3) := by decide +kernel
theorem dX9_safe_13 : decode cX9_safe 13 = .ok (.ldc 53, 2) := by decide +kernel
theorem dX9_safe_15 : decode cX9_safe 15 = .ok (.ireturn, 1) := by decide +kernel
theorem dX9_safe_16 : decode cX9_safe 16 = .ok (.aload_n 0, 1) := by decide +kernel
theorem dX9_safe_17 : decode cX9_safe 17 = .ok (.iload_n 1, 1) := by decide +kernel
theorem dX9_safe_18 : decode cX9_safe 18 = .ok (.invokevirtual 96, 3) := by decide +kernel
theorem dX9_safe_21 : decode cX9_safe 21 = .ok (.ifCond .ne 6, 3) := by decide +kernel
theorem dX9_safe_24 : decode cX9_safe 24 = .ok (.ldc 58, 2) := by decide +kernel
theorem dX9_safe_26 : decode cX9_safe 26 = .ok (.ireturn, 1) := by decide +kernel
theorem dX9_safe_27 : decode cX9_safe 27 = .ok (.aload_n 0, 1) := by decide +kernel
theorem dX9_safe_28 : decode cX9_safe 28 = .ok (.getfield 7, 3) := by decide +kernel
theorem dX9_safe_31 : decode cX9_safe 31 = .ok (.iconst 2, 1) := by decide +kernel
theorem dX9_safe_32 : decode cX9_safe 32 = .ok (.iaload, 1) := by decide +kernel
theorem dX9_safe_33 : decode cX9_safe 33 = .ok (.istore_n 2, 1) := by decide +kernel
theorem dX9_safe_34 : decode cX9_safe 34 = .ok (.iload_n 2, 1) := by decide +kernel
theorem dX9_safe_35 : decode cX9_safe 35 = .ok (.ifCond .lt 20, 3) := by decide +kernel
theorem dX9_safe_38 : decode cX9_safe 38 = .ok (.aload_n 0, 1) := by decide +kernel
theorem dX9_safe_39 : decode cX9_safe 39 = .ok (.iload_n 1, 1) := by decide +kernel
theorem dX9_safe_40 : decode cX9_safe 40 = .ok (.iload_n 2, 1) := by decide +kernel
theorem dX9_safe_41 : decode cX9_safe 41 = .ok (.invokevirtual 120, 3) := by decide +kernel
theorem dX9_safe_44 : decode cX9_safe 44 = .ok (.ifCond .ne 5, 3) := by decide +kernel
theorem dX9_safe_47 : decode cX9_safe 47 = .ok (.iload_n 2, 1) := by decide +kernel
theorem dX9_safe_48 : decode cX9_safe 48 = .ok (.ireturn, 1) := by decide +kernel
theorem dX9_safe_49 : decode cX9_safe 49 = .ok (.iinc 2 (-1), 3) := by decide +kernel
theorem dX9_safe_52 : decode cX9_safe 52 = .ok (.goto (-18), 3) := by decide +kernel
theorem dX9_safe_55 : decode cX9_safe 55 = .ok (.ldc 59, 2) := by decide +kernel
theorem dX9_safe_57 : decode cX9_safe 57 = .ok (.ireturn, 1) := by decide +kernel
set_option maxRecDepth 20000 in
theorem ggX9_firstMiss_X9_in : GoodIn wsX9_firstMiss wsX9_in := goodIn_r _ [9] (by decide +kernel) (by decide +kernel)
set_option maxRecDepth 20000 in
theorem gX9_firstMiss_X9_in : GoodIn wsX9_firstMiss (va_wsS RX9 42 yX9_in wsX9_in) := goodIn_app (goodIn_of _ (by decide +kernel)) ggX9_firstMiss_X9_in
set_option maxRecDepth 20000 in
theorem ggX9_firstMiss_X9_canMove : GoodIn wsX9_firstMiss wsX9_canMove := goodIn_r _ [13, 3, 6, 7, 8, 9, 56, 57, 58, 59, 60, 61, 62, 63, 64, 65, 66, 67, 68, 69, 70, 71, 72, 73, 74] (by decide +kernel) (by decide +kernel)
set_option maxRecDepth 20000 in
theorem gX9_firstMiss_X9_canMove : GoodIn wsX9_firstMiss (wsV RX9 96 RX9 yX9_canMove wsX9_canMove) := goodIn_app (goodIn_of _ (by decide +kernel)) ggX9_firstMiss_X9_canMove
set_option maxRecDepth 20000 in
theorem ggX9_firstMiss_X9_tries : GoodIn wsX9_firstMiss wsX9_tries := goodIn_r _ [17, 3, 18, 19, 20, 21, 8, 22, 23, 24, 25, 26, 27, 28, 29, 30, 31, 32, 33, 4, 5, 34, 35, 36, 37, 38, 39, 40, 41, 42, 43, 44, 45, 46, 47, 6, 7, 9, 48, 49, 50, 51, 52, 53, 54, 55, 56, 57, 58, 59, 60, 61, 62, 63, 64, 65, 66, 67, 68, 69, 70, 71, 72, 73, 74] (by decide +kernel) (by decide +kernel)
set_option maxRecDepth 20000 in
theorem gX9_firstMiss_X9_tries : GoodIn wsX9_firstMiss (wsV RX9 120 RX9 yX9_tries wsX9_tries) := goodIn_app (goodIn_of _ (by decide +kernel)) ggX9_firstMiss_X9_tries
theorem dX9_firstMiss_0 : decode cX9_firstMiss 0 = .ok (.iload_n 1, 1) := by decide +kernel
theorem dX9_firstMiss_1 : decode cX9_firstMiss 1 = .ok (.sipush (-4000), 3) := by decide +kernel
theorem dX9_firstMiss_4 : decode cX9_firstMiss 4 = .ok (.sipush 4000, 3) := by decide +kernel
theorem dX9_firstMiss_7 : decode cX9_firstMiss 7 = .ok (.invokestatic 42, 3) := by decide +kernel
theorem dX9_firstMiss_10 : decode cX9_firstMiss 10 = .ok (.ifCond .ne 6, 3) := by decide +kernel
theorem dX9_firstMiss_13 : decode cX9_firstMiss 13 = .ok (.ldc 53, 2) := by decide +kernel
theorem dX9_firstMiss_15 : decode cX9_firstMiss 15 = .ok (.ireturn, 1) := by decide +kernel
theorem dX9_firstMiss_16 : decode cX9_firstMiss 16 = .ok (.aload_n 0, 1) := by decide +kernel
theorem dX9_firstMiss_17 : decode cX9_firstMiss 17 = .ok (.iload_n 1, 1) := by decide +kernel
theorem dX9_firstMiss_18 : decode cX9_firstMiss 18 = .ok (.invokevirtual 96, 3) := by decide +kernel
theorem dX9_firstMiss_21 : decode cX9_firstMiss 21 = .ok (.ifCond .ne 6, 3) := by decide +kernel
theorem dX9_firstMiss_24 : decode cX9_firstMiss 24 = .ok (.ldc 58, 2) := by decide +kernel
theorem dX9_firstMiss_26 : decode cX9_firstMiss 26 = .ok (.ireturn, 1) := by decide +kernel
theorem dX9_firstMiss_27 : decode cX9_firstMiss 27 = .ok (.aload_n 0, 1) := by decide +kernel
theorem dX9_firstMiss_28 : decode cX9_firstMiss 28 = .ok (.iload_n 1, 1) := by decide +kernel
theorem dX9_firstMiss_29 : decode cX9_firstMiss 29 = .ok (.aload_n 0, 1) := by decide +kernel
theorem dX9_firstMiss_30 : decode cX9_firstMiss 30 = .ok (.getfield 7, 3) := by decide +kernel
theorem dX9_firstMiss_33 : decode cX9_firstMiss 33 = .ok (.iconst 2, 1) := by decide +kernel
theorem dX9_firstMiss_34 : decode cX9_firstMiss 34 = .ok (.iaload, 1) := by decide +kernel
theorem dX9_firstMiss_35 : decode cX9_firstMiss 35 = .ok (.invokevirtual 120, 3) := by decide +kernel
theorem dX9_firstMiss_38 : decode cX9_firstMiss 38 = .ok (.ifCond .ne 8, 3) := by decide +kernel
theorem dX9_firstMiss_41 : decode cX9_firstMiss 41 = .ok (.ldc 59, 2) := by decide +kernel
theorem dX9_firstMiss_43 : decode cX9_firstMiss 43 = .ok (.goto 7, 3) := by decide +kernel
theorem dX9_firstMiss_46 : decode cX9_firstMiss 46 = .ok (.aload_n 0, 1) := by decide +kernel
theorem dX9_firstMiss_47 : decode cX9_firstMiss 47 = .ok (.getfield 83, 3) := by decide +kernel
theorem dX9_firstMiss_50 : decode cX9_firstMiss 50 = .ok (.ireturn, 1) := by decide +kernel
set_option maxRecDepth 20000 in
theorem ggX9_speedBits_Jxf58ca_floatToIntBits_5c35a : GoodIn wsX9_speedBits wsJxf58ca_floatToIntBits_5c35a := goodIn_r _ [7, 8, 9, 10, 11, 12, 13, 14, 6, 15] (by decide +kernel) (by decide +kernel)
set_option maxRecDepth 20000 in
theorem gX9_speedBits_Jxf58ca_floatToIntBits_5c35a : GoodIn wsX9_speedBits (va_wsS RX9 123 yJxf58ca_floatToIntBits_5c35a wsJxf58ca_floatToIntBits_5c35a) := goodIn_app (goodIn_of _ (by decide +kernel)) ggX9_speedBits_Jxf58ca_floatToIntBits_5c35a
theorem dX9_speedBits_0 : decode cX9_speedBits 0 = .ok (.iload_n 1, 1) := by decide +kernel
theorem dX9_speedBits_1 : decode cX9_speedBits 1 = .ok (.ifCond .ge 6, 3) := by decide +kernel
theorem dX9_speedBits_4 : decode cX9_speedBits 4 = .ok (.ldc 53, 2) := by decide +kernel
theorem dX9_speedBits_6 : decode cX9_speedBits 6 = .ok (.ireturn, 1) := by decide +kernel
theorem dX9_speedBits_7 : decode cX9_speedBits 7 = .ok (.iload_n 1, 1) := by decide +kernel
theorem dX9_speedBits_8 : decode cX9_speedBits 8 = .ok (.aload_n 0, 1) := by decide +kernel
theorem dX9_speedBits_9 : decode cX9_speedBits 9 = .ok (.getfield 7, 3) := by decide +kernel
theorem dX9_speedBits_12 : decode cX9_speedBits 12 = .ok (.bipush 37, 2) := by decide +kernel
theorem dX9_speedBits_14 : decode cX9_speedBits 14 = .ok (.iaload, 1) := by decide +kernel
theorem dX9_speedBits_15 : decode cX9_speedBits 15 = .ok (.if_icmp .ge 30, 3) := by decide +kernel
theorem dX9_speedBits_18 : decode cX9_speedBits 18 = .ok (.aload_n 0, 1) := by decide +kernel
theorem dX9_speedBits_19 : decode cX9_speedBits 19 = .ok (.getfield 7, 3) := by decide +kernel
theorem dX9_speedBits_22 : decode cX9_speedBits 22 = .ok (.bipush 38, 2) := by decide +kernel
theorem dX9_speedBits_24 : decode cX9_speedBits 24 = .ok (.iconst 5, 1) := by decide +kernel
theorem dX9_speedBits_25 : decode cX9_speedBits 25 = .ok (.iload_n 1, 1) := by decide +kernel
theorem dX9_speedBits_26 : decode cX9_speedBits 26 = .ok (.imul, 1) := by decide +kernel
theorem dX9_speedBits_27 : decode cX9_speedBits 27 = .ok (.iadd, 1) := by decide +kernel
theorem dX9_speedBits_28 : decode cX9_speedBits 28 = .ok (.iaload, 1) := by decide +kernel
theorem dX9_speedBits_29 : decode cX9_speedBits 29 = .ok (.aload_n 0, 1) := by decide +kernel
theorem dX9_speedBits_30 : decode cX9_speedBits 30 = .ok (.getfield 7, 3) := by decide +kernel
theorem dX9_speedBits_33 : decode cX9_speedBits 33 = .ok (.bipush 38, 2) := by decide +kernel
theorem dX9_speedBits_35 : decode cX9_speedBits 35 = .ok (.iconst 5, 1) := by decide +kernel
theorem dX9_speedBits_36 : decode cX9_speedBits 36 = .ok (.iload_n 1, 1) := by decide +kernel
theorem dX9_speedBits_37 : decode cX9_speedBits 37 = .ok (.imul, 1) := by decide +kernel
theorem dX9_speedBits_38 : decode cX9_speedBits 38 = .ok (.iadd, 1) := by decide +kernel
theorem dX9_speedBits_39 : decode cX9_speedBits 39 = .ok (.iconst 1, 1) := by decide +kernel
theorem dX9_speedBits_40 : decode cX9_speedBits 40 = .ok (.iadd, 1) := by decide +kernel
theorem dX9_speedBits_41 : decode cX9_speedBits 41 = .ok (.iaload, 1) := by decide +kernel
theorem dX9_speedBits_42 : decode cX9_speedBits 42 = .ok (.if_icmp .ne 6, 3) := by decide +kernel
theorem dX9_speedBits_45 : decode cX9_speedBits 45 = .ok (.ldc 59, 2) := by decide +kernel
theorem dX9_speedBits_47 : decode cX9_speedBits 47 = .ok (.ireturn, 1) := by decide +kernel
theorem dX9_speedBits_48 : decode cX9_speedBits 48 = .ok (.aload_n 0, 1) := by decide +kernel
theorem dX9_speedBits_49 : decode cX9_speedBits 49 = .ok (.getfield 7, 3) := by decide +kernel
theorem dX9_speedBits_52 : decode cX9_speedBits 52 = .ok (.bipush 38, 2) := by decide +kernel
theorem dX9_speedBits_54 : decode cX9_speedBits 54 = .ok (.iconst 5, 1) := by decide +kernel
theorem dX9_speedBits_55 : decode cX9_speedBits 55 = .ok (.iload_n 1, 1) := by decide +kernel
theorem dX9_speedBits_56 : decode cX9_speedBits 56 = .ok (.imul, 1) := by decide +kernel
theorem dX9_speedBits_57 : decode cX9_speedBits 57 = .ok (.iadd, 1) := by decide +kernel
theorem dX9_speedBits_58 : decode cX9_speedBits 58 = .ok (.iconst 1, 1) := by decide +kernel
theorem dX9_speedBits_59 : decode cX9_speedBits 59 = .ok (.iadd, 1) := by decide +kernel
theorem dX9_speedBits_60 : decode cX9_speedBits 60 = .ok (.iaload, 1) := by decide +kernel
theorem dX9_speedBits_61 : decode cX9_speedBits 61 = .ok (.aload_n 0, 1) := by decide +kernel
theorem dX9_speedBits_62 : decode cX9_speedBits 62 = .ok (.getfield 7, 3) := by decide +kernel
theorem dX9_speedBits_65 : decode cX9_speedBits 65 = .ok (.bipush 38, 2) := by decide +kernel
theorem dX9_speedBits_67 : decode cX9_speedBits 67 = .ok (.iconst 5, 1) := by decide +kernel
theorem dX9_speedBits_68 : decode cX9_speedBits 68 = .ok (.iload_n 1, 1) := by decide +kernel
theorem dX9_speedBits_69 : decode cX9_speedBits 69 = .ok (.imul, 1) := by decide +kernel
theorem dX9_speedBits_70 : decode cX9_speedBits 70 = .ok (.iadd, 1) := by decide +kernel
theorem dX9_speedBits_71 : decode cX9_speedBits 71 = .ok (.iaload, 1) := by decide +kernel
theorem dX9_speedBits_72 : decode cX9_speedBits 72 = .ok (.isub, 1) := by decide +kernel
theorem dX9_speedBits_73 : decode cX9_speedBits 73 = .ok (.istore_n 2, 1) := by decide +kernel
theorem dX9_speedBits_74 : decode cX9_speedBits 74 = .ok (.iload_n 2, 1) := by decide +kernel
theorem dX9_speedBits_75 : decode cX9_speedBits 75 = .ok (.ifCond .ge 8, 3) := by decide +kernel
theorem dX9_speedBits_78 : decode cX9_speedBits 78 = .ok (.iload_n 2, 1) := by decide +kernel
theorem dX9_speedBits_79 : decode cX9_speedBits 79 = .ok (.ineg, 1) := by decide +kernel
theorem dX9_speedBits_80 : decode cX9_speedBits 80 = .ok (.goto 4, 3) := by decide +kernel
theorem dX9_speedBits_83 : decode cX9_speedBits 83 = .ok (.iload_n 2, 1) := by decide +kernel
theorem dX9_speedBits_84 : decode cX9_speedBits 84 = .ok (.i2f, 1) := by decide +kernel
theorem dX9_speedBits_85 : decode cX9_speedBits 85 = .ok (.aload_n 0, 1) := by decide +kernel
theorem dX9_speedBits_86 : decode cX9_speedBits 86 = .ok (.getfield 7, 3) := by decide +kernel
theorem dX9_speedBits_89 : decode cX9_speedBits 89 = .ok (.bipush 38, 2) := by decide +kernel
theorem dX9_speedBits_91 : decode cX9_speedBits 91 = .ok (.iconst 5, 1) := by decide +kernel
theorem dX9_speedBits_92 : decode cX9_speedBits 92 = .ok (.iload_n 1, 1) := by decide +kernel
theorem dX9_speedBits_93 : decode cX9_speedBits 93 = .ok (.imul, 1) := by decide +kernel
theorem dX9_speedBits_94 : decode cX9_speedBits 94 = .ok (.iadd, 1) := by decide +kernel
theorem dX9_speedBits_95 : decode cX9_speedBits 95 = .ok (.iconst 3, 1) := by decide +kernel
theorem dX9_speedBits_96 : decode cX9_speedBits 96 = .ok (.iadd, 1) := by decide +kernel
theorem dX9_speedBits_97 : decode cX9_speedBits 97 = .ok (.iaload, 1) := by decide +kernel
theorem dX9_speedBits_98 : decode cX9_speedBits 98 = .ok (.i2f, 1) := by decide +kernel
theorem dX9_speedBits_99 : decode cX9_speedBits 99 = .ok (.fdiv, 1) := by decide +kernel
theorem dX9_speedBits_100 : decode cX9_speedBits 100 = .ok (.fstore_n 3, 1) := by decide +kernel
theorem dX9_speedBits_101 : decode cX9_speedBits 101 = .ok (.fload_n 3, 1) := by decide +kernel
theorem dX9_speedBits_102 : decode cX9_speedBits 102 = .ok (.invokestatic 123, 3) := by decide +kernel
theorem dX9_speedBits_105 : decode cX9_speedBits 105 = .ok (.ireturn, 1) := by decide +kernel
theorem dX9_undo_0 : decode cX9_undo 0 = .ok (.aload_n 0, 1) := by decide +kernel
theorem dX9_undo_1 : decode cX9_undo 1 = .ok (.getfield 38, 3) := by decide +kernel
theorem dX9_undo_4 : decode cX9_undo 4 = .ok (.ifCond .ne 6, 3) := by decide +kernel
theorem dX9_undo_7 : decode cX9_undo 7 = .ok (.ldc 58, 2) := by decide +kernel
theorem dX9_undo_9 : decode cX9_undo 9 = .ok (.ireturn, 1) := by decide +kernel
theorem dX9_undo_10 : decode cX9_undo 10 = .ok (.aload_n 0, 1) := by decide +kernel
theorem dX9_undo_11 : decode cX9_undo 11 = .ok (.dup, 1) := by decide +kernel
theorem dX9_undo_12 : decode cX9_undo 12 = .ok (.getfield 38, 3) := by decide +kernel
theorem dX9_undo_15 : decode cX9_undo 15 = .ok (.iconst 1, 1) := by decide +kernel
theorem dX9_undo_16 : decode cX9_undo 16 = .ok (.isub, 1) := by decide +kernel
theorem dX9_undo_17 : decode cX9_undo 17 = .ok (.putfield 38, 3) := by decide +kernel
theorem dX9_undo_20 : decode cX9_undo 20 = .ok (.iconst 0, 1) := by decide +kernel
theorem dX9_undo_21 : decode cX9_undo 21 = .ok (.istore_n 1, 1) := by decide +kernel
theorem dX9_undo_22 : decode cX9_undo 22 = .ok (.iload_n 1, 1) := by decide +kernel
theorem dX9_undo_23 : decode cX9_undo 23 = .ok (.bipush 63, 2) := by decide +kernel
theorem dX9_undo_25 : decode cX9_undo 25 = .ok (.if_icmp .ge 29, 3) := by decide +kernel
theorem dX9_undo_28 : decode cX9_undo 28 = .ok (.aload_n 0, 1) := by decide +kernel
theorem dX9_undo_29 : decode cX9_undo 29 = .ok (.getfield 7, 3) := by decide +kernel
theorem dX9_undo_32 : decode cX9_undo 32 = .ok (.iload_n 1, 1) := by decide +kernel
theorem dX9_undo_33 : decode cX9_undo 33 = .ok (.aload_n 0, 1) := by decide +kernel
theorem dX9_undo_34 : decode cX9_undo 34 = .ok (.getfield 13, 3) := by decide +kernel
theorem dX9_undo_37 : decode cX9_undo 37 = .ok (.bipush 63, 2) := by decide +kernel
theorem dX9_undo_39 : decode cX9_undo 39 = .ok (.aload_n 0, 1) := by decide +kernel
theorem dX9_undo_40 : decode cX9_undo 40 = .ok (.getfield 38, 3) := by decide +kernel
theorem dX9_undo_43 : decode cX9_undo 43 = .ok (.imul, 1) := by decide +kernel
theorem dX9_undo_44 : decode cX9_undo 44 = .ok (.iload_n 1, 1) := by decide +kernel
theorem dX9_undo_45 : decode cX9_undo 45 = .ok (.iadd, 1) := by decide +kernel
theorem dX9_undo_46 : decode cX9_undo 46 = .ok (.iaload, 1) := by decide +kernel
theorem dX9_undo_47 : decode cX9_undo 47 = .ok (.iastore, 1) := by decide +kernel
theorem dX9_undo_48 : decode cX9_undo 48 = .ok (.iinc 1 1, 3) := by decide +kernel
theorem dX9_undo_51 : decode cX9_undo 51 = .ok (.goto (-29), 3) := by decide +kernel
theorem dX9_undo_54 : decode cX9_undo 54 = .ok (.aload_n 0, 1) := by decide +kernel
theorem dX9_undo_55 : decode cX9_undo 55 = .ok (.getfield 38, 3) := by decide +kernel
theorem dX9_undo_58 : decode cX9_undo 58 = .ok (.ireturn, 1) := by decide +kernel
set_option maxRecDepth 20000 in
theorem ggX9_type_X9_in : GoodIn wsX9_type wsX9_in := goodIn_r _ [8] (by decide +kernel) (by decide +kernel)
set_option maxRecDepth 20000 in
theorem gX9_type_X9_in : GoodIn wsX9_type (va_wsS RX9 42 yX9_in wsX9_in) := goodIn_app (goodIn_of _ (by decide +kernel)) ggX9_type_X9_in
theorem dX9_type_0 : decode cX9_type 0 = .ok (.iload_n 1, 1) := by decide +kernel
theorem dX9_type_1 : decode cX9_type 1 = .ok (.bipush 32, 2) := by decide +kernel
theorem dX9_type_3 : decode cX9_type 3 = .ok (.bipush 126, 2) := by decide +kernel
theorem dX9_type_5 : decode cX9_type 5 = .ok (.invokestatic 42, 3) := by decide +kernel
theorem dX9_type_8 : decode cX9_type 8 = .ok (.ifCond .ne 6, 3) := by decide +kernel
theorem dX9_type_11 : decode cX9_type 11 = .ok (.ldc 53, 2) := by decide +kernel
theorem dX9_type_13 : decode cX9_type 13 = .ok (.ireturn, 1) := by decide +kernel
theorem dX9_type_14 : decode cX9_type 14 = .ok (.aload_n 0, 1) := by decide +kernel
theorem dX9_type_15 : decode cX9_type 15 = .ok (.getfield 117, 3) := by decide +kernel
theorem dX9_type_18 : decode cX9_type 18 = .ok (.bipush 60, 2) := by decide +kernel
theorem dX9_type_20 : decode cX9_type 20 = .ok (.if_icmp .ne 6, 3) := by decide +kernel
theorem dX9_type_23 : decode cX9_type 23 = .ok (.ldc 57, 2) := by decide +kernel
theorem dX9_type_25 : decode cX9_type 25 = .ok (.ireturn, 1) := by decide +kernel
theorem dX9_type_26 : decode cX9_type 26 = .ok (.aload_n 0, 1) := by decide +kernel
theorem dX9_type_27 : decode cX9_type 27 = .ok (.getfield 22, 3) := by decide +kernel
theorem dX9_type_30 : decode cX9_type 30 = .ok (.aload_n 0, 1) := by decide +kernel
theorem dX9_type_31 : decode cX9_type 31 = .ok (.getfield 117, 3) := by decide +kernel
theorem dX9_type_34 : decode cX9_type 34 = .ok (.iload_n 1, 1) := by decide +kernel
theorem dX9_type_35 : decode cX9_type 35 = .ok (.iastore, 1) := by decide +kernel
theorem dX9_type_36 : decode cX9_type 36 = .ok (.aload_n 0, 1) := by decide +kernel
theorem dX9_type_37 : decode cX9_type 37 = .ok (.dup, 1) := by decide +kernel
theorem dX9_type_38 : decode cX9_type 38 = .ok (.getfield 117, 3) := by decide +kernel
theorem dX9_type_41 : decode cX9_type 41 = .ok (.iconst 1, 1) := by decide +kernel
theorem dX9_type_42 : decode cX9_type 42 = .ok (.iadd, 1) := by decide +kernel
theorem dX9_type_43 : decode cX9_type 43 = .ok (.putfield 117, 3) := by decide +kernel
theorem dX9_type_46 : decode cX9_type 46 = .ok (.aload_n 0, 1) := by decide +kernel
theorem dX9_type_47 : decode cX9_type 47 = .ok (.getfield 117, 3) := by decide +kernel
theorem dX9_type_50 : decode cX9_type 50 = .ok (.ireturn, 1) := by decide +kernel
theorem dX9_clearText_0 : decode cX9_clearText 0 = .ok (.aload_n 0, 1) := by decide +kernel
theorem dX9_clearText_1 : decode cX9_clearText 1 = .ok (.getfield 117, 3) := by decide +kernel
theorem dX9_clearText_4 : decode cX9_clearText 4 = .ok (.istore_n 1, 1) := by decide +kernel
theorem dX9_clearText_5 : decode cX9_clearText 5 = .ok (.aload_n 0, 1) := by decide +kernel
theorem dX9_clearText_6 : decode cX9_clearText 6 = .ok (.iconst 0, 1) := by decide +kernel
theorem dX9_clearText_7 : decode cX9_clearText 7 = .ok (.putfield 117, 3) := by decide +kernel
theorem dX9_clearText_10 : decode cX9_clearText 10 = .ok (.iload_n 1, 1) := by decide +kernel
theorem dX9_clearText_11 : decode cX9_clearText 11 = .ok (.ireturn, 1) := by decide +kernel
set_option maxRecDepth 20000 in
theorem ggX9_isAt_X9_in : GoodIn wsX9_isAt wsX9_in := goodIn_r _ [7] (by decide +kernel) (by decide +kernel)
set_option maxRecDepth 20000 in
theorem gX9_isAt_X9_in : GoodIn wsX9_isAt (va_wsS RX9 42 yX9_in wsX9_in) := goodIn_app (goodIn_of _ (by decide +kernel)) ggX9_isAt_X9_in
theorem dX9_isAt_0 : decode cX9_isAt 0 = .ok (.aload_n 0, 1) := by decide +kernel
theorem dX9_isAt_1 : decode cX9_isAt 1 = .ok (.getfield 129, 3) := by decide +kernel
theorem dX9_isAt_4 : decode cX9_isAt 4 = .ok (.aload_n 0, 1) := by decide +kernel
theorem dX9_isAt_5 : decode cX9_isAt 5 = .ok (.getfield 117, 3) := by decide +kernel
theorem dX9_isAt_8 : decode cX9_isAt 8 = .ok (.if_icmp .ge 24, 3) := by decide +kernel
theorem dX9_isAt_11 : decode cX9_isAt 11 = .ok (.aload_n 0, 1) := by decide +kernel
theorem dX9_isAt_12 : decode cX9_isAt 12 = .ok (.getfield 22, 3) := by decide +kernel
theorem dX9_isAt_15 : decode cX9_isAt 15 = .ok (.aload_n 0, 1) := by decide +kernel
theorem dX9_isAt_16 : decode cX9_isAt 16 = .ok (.getfield 129, 3) := by decide +kernel
theorem dX9_isAt_19 : decode cX9_isAt 19 = .ok (.iaload, 1) := by decide +kernel
theorem dX9_isAt_20 : decode cX9_isAt 20 = .ok (.iload_n 1, 1) := by decide +kernel
theorem dX9_isAt_21 : decode cX9_isAt 21 = .ok (.iload_n 2, 1) := by decide +kernel
theorem dX9_isAt_22 : decode cX9_isAt 22 = .ok (.invokestatic 42, 3) := by decide +kernel
theorem dX9_isAt_25 : decode cX9_isAt 25 = .ok (.ifCond .eq 7, 3) := by decide +kernel
theorem dX9_isAt_28 : decode cX9_isAt 28 = .ok (.iconst 1, 1) := by decide +kernel
theorem dX9_isAt_29 : decode cX9_isAt 29 = .ok (.goto 4, 3) := by decide +kernel
theorem dX9_isAt_32 : decode cX9_isAt 32 = .ok (.iconst 0, 1) := by decide +kernel
theorem dX9_isAt_33 : decode cX9_isAt 33 = .ok (.ireturn, 1) := by decide +kernel
set_option maxRecDepth 20000 in
theorem ggX9_passes_X9_isAt : GoodIn wsX9_passes wsX9_isAt := goodIn_r _ [6, 1, 7, 8, 9, 10, 5, 11, 12, 13, 14, 15, 16, 17, 18, 19, 20, 21, 22, 23, 24, 25, 26, 27, 28, 29, 30] (by decide +kernel) (by decide +kernel)
set_option maxRecDepth 20000 in
theorem gX9_passes_X9_isAt : GoodIn wsX9_passes (wsV RX9 132 RX9 yX9_isAt wsX9_isAt) := goodIn_app (goodIn_of _ (by decide +kernel)) ggX9_passes_X9_isAt
theorem dX9_passes_0 : decode cX9_passes 0 = .ok (.aload_n 0, 1) := by decide +kernel
theorem dX9_passes_1 : decode cX9_passes 1 = .ok (.iload_n 1, 1) := by decide +kernel
theorem dX9_passes_2 : decode cX9_passes 2 = .ok (.iload_n 1, 1) := by decide +kernel
theorem dX9_passes_3 : decode cX9_passes 3 = .ok (.invokevirtual 132, 3) := by decide +kernel
theorem dX9_passes_6 : decode cX9_passes 6 = .ok (.istore_n 2, 1) := by decide +kernel
theorem dX9_passes_7 : decode cX9_passes 7 = .ok (.aload_n 0, 1) := by decide +kernel
theorem dX9_passes_8 : decode cX9_passes 8 = .ok (.dup, 1) := by decide +kernel
theorem dX9_passes_9 : decode cX9_passes 9 = .ok (.getfield 129, 3) := by decide +kernel
theorem dX9_passes_12 : decode cX9_passes 12 = .ok (.iload_n 2, 1) := by decide +kernel
theorem dX9_passes_13 : decode cX9_passes 13 = .ok (.ifCond .eq 7, 3) := by decide +kernel
theorem dX9_passes_16 : decode cX9_passes 16 = .ok (.iconst 1, 1) := by decide +kernel
theorem dX9_passes_17 : decode cX9_passes 17 = .ok (.goto 4, 3) := by decide +kernel
theorem dX9_passes_20 : decode cX9_passes 20 = .ok (.iconst 0, 1) := by decide +kernel
theorem dX9_passes_21 : decode cX9_passes 21 = .ok (.iadd, 1) := by decide +kernel
theorem dX9_passes_22 : decode cX9_passes 22 = .ok (.putfield 129, 3) := by decide +kernel
theorem dX9_passes_25 : decode cX9_passes 25 = .ok (.iload_n 2, 1) := by decide +kernel
theorem dX9_passes_26 : decode cX9_passes 26 = .ok (.ireturn, 1) := by decide +kernel
set_option maxRecDepth 20000 in
theorem ggX9_number_X9_passes : GoodIn wsX9_number wsX9_passes := goodIn_r _ [8, 1, 9, 10, 11, 7, 12, 13, 2, 14, 15, 16, 17, 18, 19, 20, 21, 22, 23, 24, 25, 26, 27, 28, 29, 30, 31, 32, 33, 34, 35] (by decide +kernel) (by decide +kernel)
set_option maxRecDepth 20000 in
theorem gX9_number_X9_passes : GoodIn wsX9_number (wsV RX9 135 RX9 yX9_passes wsX9_passes) := goodIn_app (goodIn_of _ (by decide +kernel)) ggX9_number_X9_passes
set_option maxRecDepth 20000 in
theorem ggX9_number_X9_isAt : GoodIn wsX9_number wsX9_isAt := goodIn_r _ [12, 1, 13, 2, 14, 15, 7, 16, 17, 18, 19, 20, 21, 22, 23, 24, 25, 26, 27, 28, 29, 30, 31, 32, 33, 34, 35] (by decide +kernel) (by decide +kernel)
set_option maxRecDepth 20000 in
theorem gX9_number_X9_isAt : GoodIn wsX9_number (wsV RX9 132 RX9 yX9_isAt wsX9_isAt) := goodIn_app (goodIn_of _ (by decide +kernel)) ggX9_number_X9_isAt
theorem dX9_number_0 : decode cX9_number 0 = .ok (.iload_n 2, 1) := by decide +kernel
theorem dX9_number_1 : decode cX9_number 1 = .ok (.ifCond .eq 16, 3) := by decide +kernel
theorem dX9_number_4 : decode cX9_number 4 = .ok (.aload_n 0, 1) := by decide +kernel
theorem dX9_number_5 : decode cX9_number 5 = .ok (.bipush 45, 2) := by decide +kernel
theorem dX9_number_7 : decode cX9_number 7 = .ok (.invokevirtual 135, 3) := by decide +kernel
theorem dX9_number_10 : decode cX9_number 10 = .ok (.ifCond .eq 7, 3) := by decide +kernel
theorem dX9_number_13 : decode cX9_number 13 = .ok (.iconst 1, 1) := by decide +kernel
theorem dX9_number_14 : decode cX9_number 14 = .ok (.goto 4, 3) := by decide +kernel
theorem dX9_number_17 : decode cX9_number 17 = .ok (.iconst 0, 1) := by decide +kernel
theorem dX9_number_18 : decode cX9_number 18 = .ok (.istore_n 3, 1) := by decide +kernel
theorem dX9_number_19 : decode cX9_number 19 = .ok (.aload_n 0, 1) := by decide +kernel
theorem dX9_number_20 : decode cX9_number 20 = .ok (.getfield 129, 3) := by decide +kernel
theorem dX9_number_23 : decode cX9_number 23 = .ok (.istore 4, 2) := by decide +kernel
theorem dX9_number_25 : decode cX9_number 25 = .ok (.iconst 0, 1) := by decide +kernel
theorem dX9_number_26 : decode cX9_number 26 = .ok (.istore 5, 2) := by decide +kernel
theorem dX9_number_28 : decode cX9_number 28 = .ok (.aload_n 0, 1) := by decide +kernel
theorem dX9_number_29 : decode cX9_number 29 = .ok (.bipush 48, 2) := by decide +kernel
theorem dX9_number_31 : decode cX9_number 31 = .ok (.bipush 57, 2) := by decide +kernel
theorem dX9_number_33 : decode cX9_number 33 = .ok (.invokevirtual 132, 3) := by decide +kernel
theorem dX9_number_36 : decode cX9_number 36 = .ok (.ifCond .eq 47, 3) := by decide +kernel
theorem dX9_number_39 : decode cX9_number 39 = .ok (.aload_n 0, 1) := by decide +kernel
theorem dX9_number_40 : decode cX9_number 40 = .ok (.getfield 129, 3) := by decide +kernel
theorem dX9_number_43 : decode cX9_number 43 = .ok (.iload 4, 2) := by decide +kernel
theorem dX9_number_45 : decode cX9_number 45 = .ok (.isub, 1) := by decide +kernel
theorem dX9_number_46 : decode cX9_number 46 = .ok (.iconst 4, 1) := by decide +kernel
theorem dX9_number_47 : decode cX9_number 47 = .ok (.if_icmp .ge 36, 3) := by decide +kernel
theorem dX9_number_50 : decode cX9_number 50 = .ok (.bipush 10, 2) := by decide +kernel
theorem dX9_number_52 : decode cX9_number 52 = .ok (.iload 5, 2) := by decide +kernel
theorem dX9_number_54 : decode cX9_number 54 = .ok (.imul, 1) := by decide +kernel
theorem dX9_number_55 : decode cX9_number 55 = .ok (.aload_n 0, 1) := by decide +kernel
theorem dX9_number_56 : decode cX9_number 56 = .ok (.getfield 22, 3) := by decide +kernel
theorem dX9_number_59 : decode cX9_number 59 = .ok (.aload_n 0, 1) := by decide +kernel
theorem dX9_number_60 : decode cX9_number 60 = .ok (.getfield 129, 3) := by decide +kernel
theorem dX9_number_63 : decode cX9_number 63 = .ok (.iaload, 1) := by decide +kernel
theorem dX9_number_64 : decode cX9_number 64 = .ok (.iadd, 1) := by decide +kernel
theorem dX9_number_65 : decode cX9_number 65 = .ok (.bipush 48, 2) := by decide +kernel
theorem dX9_number_67 : decode cX9_number 67 = .ok (.isub, 1) := by decide +kernel
theorem dX9_number_68 : decode cX9_number 68 = .ok (.istore 5, 2) := by decide +kernel
theorem dX9_number_70 : decode cX9_number 70 = .ok (.aload_n 0, 1) := by decide +kernel
theorem dX9_number_71 : decode cX9_number 71 = .ok (.dup, 1) := by decide +kernel
theorem dX9_number_72 : decode cX9_number 72 = .ok (.getfield 129, 3) := by decide +kernel
theorem dX9_number_75 : decode cX9_number 75 = .ok (.iconst 1, 1) := by decide +kernel
theorem dX9_number_76 : decode cX9_number 76 = .ok (.iadd, 1) := by decide +kernel
theorem dX9_number_77 : decode cX9_number 77 = .ok (.putfield 129, 3) := by decide +kernel
theorem dX9_number_80 : decode cX9_number 80 = .ok (.goto (-52), 3) := by decide +kernel
theorem dX9_number_83 : decode cX9_number 83 = .ok (.aload_n 0, 1) := by decide +kernel
theorem dX9_number_84 : decode cX9_number 84 = .ok (.getfield 31, 3) := by decide +kernel
theorem dX9_number_87 : decode cX9_number 87 = .ok (.iload_n 1, 1) := by decide +kernel
theorem dX9_number_88 : decode cX9_number 88 = .ok (.iload_n 3, 1) := by decide +kernel
theorem dX9_number_89 : decode cX9_number 89 = .ok (.ifCond .eq 9, 3) := by decide +kernel
theorem dX9_number_92 : decode cX9_number 92 = .ok (.iload 5, 2) := by decide +kernel
theorem dX9_number_94 : decode cX9_number 94 = .ok (.ineg, 1) := by decide +kernel
theorem dX9_number_95 : decode cX9_number 95 = .ok (.goto 5, 3) := by decide +kernel
theorem dX9_number_98 : decode cX9_number 98 = .ok (.iload 5, 2) := by decide +kernel
theorem dX9_number_100 : decode cX9_number 100 = .ok (.iastore, 1) := by decide +kernel
theorem dX9_number_101 : decode cX9_number 101 = .ok (.aload_n 0, 1) := by decide +kernel
theorem dX9_number_102 : decode cX9_number 102 = .ok (.getfield 129, 3) := by decide +kernel
theorem dX9_number_105 : decode cX9_number 105 = .ok (.iload 4, 2) := by decide +kernel
theorem dX9_number_107 : decode cX9_number 107 = .ok (.if_icmp .le 7, 3) := by decide +kernel
theorem dX9_number_110 : decode cX9_number 110 = .ok (.iconst 1, 1) := by decide +kernel
theorem dX9_number_111 : decode cX9_number 111 = .ok (.goto 4, 3) := by decide +kernel
theorem dX9_number_114 : decode cX9_number 114 = .ok (.iconst 0, 1) := by decide +kernel
theorem dX9_number_115 : decode cX9_number 115 = .ok (.ireturn, 1) := by decide +kernel
set_option maxRecDepth 20000 in
theorem ggX9_reads_X9_passes : GoodIn wsX9_reads wsX9_passes := goodIn_r _ [8, 2, 9, 10, 11, 7, 12, 13, 1, 14, 15, 16, 22, 23, 24, 25, 26, 27, 28, 29, 30, 31, 32, 33, 34, 35, 36, 37, 38, 39, 40] (by decide +kernel) (by decide +kernel)
set_option maxRecDepth 20000 in
theorem gX9_reads_X9_passes : GoodIn wsX9_reads (wsV RX9 135 RX9 yX9_passes wsX9_passes) := goodIn_app (goodIn_of _ (by decide +kernel)) ggX9_reads_X9_passes
set_option maxRecDepth 20000 in
theorem ggX9_reads_X9_number : GoodIn wsX9_reads wsX9_number := goodIn_r _ [20, 2, 1, 21, 4, 5, 6, 7, 8, 9, 10, 11, 12, 13, 14, 15, 16, 22, 23, 24, 25, 26, 27, 28, 29, 30, 31, 32, 33, 34, 35, 36, 37, 38, 39, 40] (by decide +kernel) (by decide +kernel)
set_option maxRecDepth 20000 in
theorem gX9_reads_X9_number : GoodIn wsX9_reads (wsV RX9 141 RX9 yX9_number wsX9_number) := goodIn_app (goodIn_of _ (by decide +kernel)) ggX9_reads_X9_number
theorem dX9_reads_0 : decode cX9_reads 0 = .ok (.aload_n 0, 1) := by decide +kernel
theorem dX9_reads_1 : decode cX9_reads 1 = .ok (.aload_n 0, 1) := by decide +kernel
theorem dX9_reads_2 : decode cX9_reads 2 = .ok (.getfield 22, 3) := by decide +kernel
theorem dX9_reads_5 : decode cX9_reads 5 = .ok (.aload_n 0, 1) := by decide +kernel
theorem dX9_reads_6 : decode cX9_reads 6 = .ok (.getfield 129, 3) := by decide +kernel
theorem dX9_reads_9 : decode cX9_reads 9 = .ok (.iaload, 1) := by decide +kernel
theorem dX9_reads_10 : decode cX9_reads 10 = .ok (.putfield 138, 3) := by decide +kernel
theorem dX9_reads_13 : decode cX9_reads 13 = .ok (.aload_n 0, 1) := by decide +kernel
theorem dX9_reads_14 : decode cX9_reads 14 = .ok (.dup, 1) := by decide +kernel
theorem dX9_reads_15 : decode cX9_reads 15 = .ok (.getfield 129, 3) := by decide +kernel
theorem dX9_reads_18 : decode cX9_reads 18 = .ok (.iconst 1, 1) := by decide +kernel
theorem dX9_reads_19 : decode cX9_reads 19 = .ok (.iadd, 1) := by decide +kernel
theorem dX9_reads_20 : decode cX9_reads 20 = .ok (.putfield 129, 3) := by decide +kernel
theorem dX9_reads_23 : decode cX9_reads 23 = .ok (.aload_n 0, 1) := by decide +kernel
theorem dX9_reads_24 : decode cX9_reads 24 = .ok (.getfield 138, 3) := by decide +kernel
theorem dX9_reads_27 : decode cX9_reads 27 = .ok (.bipush 104, 2) := by decide +kernel
theorem dX9_reads_29 : decode cX9_reads 29 = .ok (.if_icmp .eq 12, 3) := by decide +kernel
theorem dX9_reads_32 : decode cX9_reads 32 = .ok (.aload_n 0, 1) := by decide +kernel
theorem dX9_reads_33 : decode cX9_reads 33 = .ok (.getfield 138, 3) := by decide +kernel
theorem dX9_reads_36 : decode cX9_reads 36 = .ok (.bipush 122, 2) := by decide +kernel
theorem dX9_reads_38 : decode cX9_reads 38 = .ok (.if_icmp .ne 10, 3) := by decide +kernel
theorem dX9_reads_41 : decode cX9_reads 41 = .ok (.aload_n 0, 1) := by decide +kernel
theorem dX9_reads_42 : decode cX9_reads 42 = .ok (.bipush 59, 2) := by decide +kernel
theorem dX9_reads_44 : decode cX9_reads 44 = .ok (.invokevirtual 135, 3) := by decide +kernel
theorem dX9_reads_47 : decode cX9_reads 47 = .ok (.ireturn, 1) := by decide +kernel
theorem dX9_reads_48 : decode cX9_reads 48 = .ok (.aload_n 0, 1) := by decide +kernel
theorem dX9_reads_49 : decode cX9_reads 49 = .ok (.getfield 138, 3) := by decide +kernel
theorem dX9_reads_52 : decode cX9_reads 52 = .ok (.bipush 115, 2) := by decide +kernel
theorem dX9_reads_54 : decode cX9_reads 54 = .ok (.if_icmp .ne 45, 3) := by decide +kernel
theorem dX9_reads_57 : decode cX9_reads 57 = .ok (.aload_n 0, 1) := by decide +kernel
theorem dX9_reads_58 : decode cX9_reads 58 = .ok (.iconst 0, 1) := by decide +kernel
theorem dX9_reads_59 : decode cX9_reads 59 = .ok (.iconst 0, 1) := by decide +kernel
theorem dX9_reads_60 : decode cX9_reads 60 = .ok (.invokevirtual 141, 3) := by decide +kernel
theorem dX9_reads_63 : decode cX9_reads 63 = .ok (.ifCond .eq 34, 3) := by decide +kernel
theorem dX9_reads_66 : decode cX9_reads 66 = .ok (.aload_n 0, 1) := by decide +kernel
theorem dX9_reads_67 : decode cX9_reads 67 = .ok (.bipush 44, 2) := by decide +kernel
theorem dX9_reads_69 : decode cX9_reads 69 = .ok (.invokevirtual 135, 3) := by decide +kernel
theorem dX9_reads_72 : decode cX9_reads 72 = .ok (.ifCond .eq 25, 3) := by decide +kernel
theorem dX9_reads_75 : decode cX9_reads 75 = .ok (.aload_n 0, 1) := by decide +kernel
theorem dX9_reads_76 : decode cX9_reads 76 = .ok (.iconst 1, 1) := by decide +kernel
theorem dX9_reads_77 : decode cX9_reads 77 = .ok (.iconst 1, 1) := by decide +kernel
theorem dX9_reads_78 : decode cX9_reads 78 = .ok (.invokevirtual 141, 3) := by decide +kernel
theorem dX9_reads_81 : decode cX9_reads 81 = .ok (.ifCond .eq 16, 3) := by decide +kernel
theorem dX9_reads_84 : decode cX9_reads 84 = .ok (.aload_n 0, 1) := by decide +kernel
theorem dX9_reads_85 : decode cX9_reads 85 = .ok (.bipush 59, 2) := by decide +kernel
theorem dX9_reads_87 : decode cX9_reads 87 = .ok (.invokevirtual 135, 3) := by decide +kernel
theorem dX9_reads_90 : decode cX9_reads 90 = .ok (.ifCond .eq 7, 3) := by decide +kernel
theorem dX9_reads_93 : decode cX9_reads 93 = .ok (.iconst 1, 1) := by decide +kernel
theorem dX9_reads_94 : decode cX9_reads 94 = .ok (.goto 4, 3) := by decide +kernel
theorem dX9_reads_97 : decode cX9_reads 97 = .ok (.iconst 0, 1) := by decide +kernel
theorem dX9_reads_98 : decode cX9_reads 98 = .ok (.ireturn, 1) := by decide +kernel
theorem dX9_reads_99 : decode cX9_reads 99 = .ok (.aload_n 0, 1) := by decide +kernel
theorem dX9_reads_100 : decode cX9_reads 100 = .ok (.getfield 138, 3) := by decide +kernel
theorem dX9_reads_103 : decode cX9_reads 103 = .ok (.bipush 103, 2) := by decide +kernel
theorem dX9_reads_105 : decode cX9_reads 105 = .ok (.if_icmp .eq 12, 3) := by decide +kernel
theorem dX9_reads_108 : decode cX9_reads 108 = .ok (.aload_n 0, 1) := by decide +kernel
theorem dX9_reads_109 : decode cX9_reads 109 = .ok (.getfield 138, 3) := by decide +kernel
theorem dX9_reads_112 : decode cX9_reads 112 = .ok (.bipush 114, 2) := by decide +kernel
theorem dX9_reads_114 : decode cX9_reads 114 = .ok (.if_icmp .ne 25, 3) := by decide +kernel
theorem dX9_reads_117 : decode cX9_reads 117 = .ok (.aload_n 0, 1) := by decide +kernel
theorem dX9_reads_118 : decode cX9_reads 118 = .ok (.iconst 0, 1) := by decide +kernel
theorem dX9_reads_119 : decode cX9_reads 119 = .ok (.iconst 1, 1) := by decide +kernel
theorem dX9_reads_120 : decode cX9_reads 120 = .ok (.invokevirtual 141, 3) := by decide +kernel
theorem dX9_reads_123 : decode cX9_reads 123 = .ok (.ifCond .eq 16, 3) := by decide +kernel
theorem dX9_reads_126 : decode cX9_reads 126 = .ok (.aload_n 0, 1) := by decide +kernel
theorem dX9_reads_127 : decode cX9_reads 127 = .ok (.bipush 59, 2) := by decide +kernel
theorem dX9_reads_129 : decode cX9_reads 129 = .ok (.invokevirtual 135, 3) := by decide +kernel
theorem dX9_reads_132 : decode cX9_reads 132 = .ok (.ifCond .eq 7, 3) := by decide +kernel
theorem dX9_reads_135 : decode cX9_reads 135 = .ok (.iconst 1, 1) := by decide +kernel
theorem dX9_reads_136 : decode cX9_reads 136 = .ok (.goto 4, 3) := by decide +kernel
theorem dX9_reads_139 : decode cX9_reads 139 = .ok (.iconst 0, 1) := by decide +kernel
theorem dX9_reads_140 : decode cX9_reads 140 = .ok (.ireturn, 1) := by decide +kernel
set_option maxRecDepth 20000 in
theorem ggX9_calls_X9_move : GoodIn wsX9_calls wsX9_move := goodIn_r _ [7, 8, 9, 10, 11, 6, 12, 13, 14, 15, 16, 17, 18, 19, 20, 21, 22, 23, 24, 25, 26, 27, 28, 29, 30, 31, 32, 33, 34, 35, 36, 37, 38, 39, 40, 41, 42, 43, 44, 45, 46, 47, 48, 49, 50, 51, 52, 53, 54, 55, 56, 57, 58, 59, 60, 61, 62, 63, 64, 103, 104, 105, 106, 107, 108, 109, 110, 111, 112, 113, 114, 115, 116, 117, 118, 119, 120, 121] (by decide +kernel) (by decide +kernel)
set_option maxRecDepth 20000 in
theorem gX9_calls_X9_move : GoodIn wsX9_calls (wsV RX9 145 RX9 yX9_move wsX9_move) := goodIn_app (goodIn_of _ (by decide +kernel)) ggX9_calls_X9_move
set_option maxRecDepth 20000 in
theorem ggX9_calls_X9_moveBy : GoodIn wsX9_calls wsX9_moveBy := goodIn_r _ [68, 8, 17, 9, 10, 11, 6, 12, 13, 14, 15, 16, 18, 19, 20, 21, 22, 23, 24, 25, 26, 27, 28, 29, 30, 31, 32, 33, 34, 35, 36, 37, 38, 39, 40, 41, 42, 43, 44, 45, 46, 47, 48, 49, 50, 51, 52, 53, 54, 55, 56, 57, 58, 59, 60, 61, 62, 63, 64, 103, 104, 105, 106, 107, 108, 109, 110, 111, 112, 113, 114, 115, 116, 117, 118, 119, 120, 121] (by decide +kernel) (by decide +kernel)
set_option maxRecDepth 20000 in
theorem gX9_calls_X9_moveBy : GoodIn wsX9_calls (wsV RX9 148 RX9 yX9_moveBy wsX9_moveBy) := goodIn_app (goodIn_of _ (by decide +kernel)) ggX9_calls_X9_moveBy
set_option maxRecDepth 20000 in
theorem ggX9_calls_X9_home : GoodIn wsX9_calls wsX9_home := goodIn_r _ [72, 17, 73, 74, 75, 6, 76, 77, 78, 79, 80, 9, 31, 32, 33, 34, 35, 36, 37, 81, 82, 83, 84, 42, 22, 48, 49, 50, 51, 52, 53, 54, 55, 56, 10, 11, 12, 57, 58, 59, 60, 61, 62, 63, 64, 85, 86, 87, 88, 24, 25, 26, 27, 28, 29, 30, 103, 104, 105, 106, 107, 108, 109, 110, 111, 112, 113, 114, 115, 116, 117, 118, 119, 120, 121] (by decide +kernel) (by decide +kernel)
set_option maxRecDepth 20000 in
theorem gX9_calls_X9_home : GoodIn wsX9_calls (wsV RX9 151 RX9 yX9_home wsX9_home) := goodIn_app (goodIn_of _ (by decide +kernel)) ggX9_calls_X9_home
set_option maxRecDepth 20000 in
theorem ggX9_calls_X9_set : GoodIn wsX9_calls wsX9_set := goodIn_r _ [92, 8, 17, 10, 11, 6, 12, 93, 94, 95, 96, 97, 98, 24, 25, 26, 27, 28, 29, 30, 103, 104, 105, 106, 107, 108, 109, 110, 111, 112, 113, 114, 115, 116, 117, 118, 119, 120, 121] (by decide +kernel) (by decide +kernel)
set_option maxRecDepth 20000 in
theorem gX9_calls_X9_set : GoodIn wsX9_calls (wsV RX9 154 RX9 yX9_set wsX9_set) := goodIn_app (goodIn_of _ (by decide +kernel)) ggX9_calls_X9_set
set_option maxRecDepth 20000 in
theorem ggX9_calls_X9_forget : GoodIn wsX9_calls wsX9_forget := goodIn_r _ [102, 17, 24, 25, 26, 6, 27, 28, 29, 30, 103, 104, 105, 106, 107, 108, 109, 110, 111, 112, 113, 114, 115, 116, 117, 118, 119, 120, 121] (by decide +kernel) (by decide +kernel)
set_option maxRecDepth 20000 in
theorem gX9_calls_X9_forget : GoodIn wsX9_calls (wsV RX9 157 RX9 yX9_forget wsX9_forget) := goodIn_app (goodIn_of _ (by decide +kernel)) ggX9_calls_X9_forget
theorem dX9_calls_0 : decode cX9_calls 0 = .ok (.aload_n 0, 1) := by decide +kernel
theorem dX9_calls_1 : decode cX9_calls 1 = .ok (.getfield 138, 3) := by decide +kernel
theorem dX9_calls_4 : decode cX9_calls 4 = .ok (.lookupswitch 88 #[(103, 44), (104, 66), (114, 55), (115, 71)], 44) := by decide +kernel
theorem dX9_calls_48 : decode cX9_calls 48 = .ok (.aload_n 0, 1) := by decide +kernel
theorem dX9_calls_49 : decode cX9_calls 49 = .ok (.aload_n 0, 1) := by decide +kernel
theorem dX9_calls_50 : decode cX9_calls 50 = .ok (.getfield 31, 3) := by decide +kernel
theorem dX9_calls_53 : decode cX9_calls 53 = .ok (.iconst 0, 1) := by decide +kernel
theorem dX9_calls_54 : decode cX9_calls 54 = .ok (.iaload, 1) := by decide +kernel
theorem dX9_calls_55 : decode cX9_calls 55 = .ok (.invokevirtual 145, 3) := by decide +kernel
theorem dX9_calls_58 : decode cX9_calls 58 = .ok (.ireturn, 1) := by decide +kernel
theorem dX9_calls_59 : decode cX9_calls 59 = .ok (.aload_n 0, 1) := by decide +kernel
theorem dX9_calls_60 : decode cX9_calls 60 = .ok (.aload_n 0, 1) := by decide +kernel
theorem dX9_calls_61 : decode cX9_calls 61 = .ok (.getfield 31, 3) := by decide +kernel
theorem dX9_calls_64 : decode cX9_calls 64 = .ok (.iconst 0, 1) := by decide +kernel
theorem dX9_calls_65 : decode cX9_calls 65 = .ok (.iaload, 1) := by decide +kernel
theorem dX9_calls_66 : decode cX9_calls 66 = .ok (.invokevirtual 148, 3) := by decide +kernel
theorem dX9_calls_69 : decode cX9_calls 69 = .ok (.ireturn, 1) := by decide +kernel
theorem dX9_calls_70 : decode cX9_calls 70 = .ok (.aload_n 0, 1) := by decide +kernel
theorem dX9_calls_71 : decode cX9_calls 71 = .ok (.invokevirtual 151, 3) := by decide +kernel
theorem dX9_calls_74 : decode cX9_calls 74 = .ok (.ireturn, 1) := by decide +kernel
theorem dX9_calls_75 : decode cX9_calls 75 = .ok (.aload_n 0, 1) := by decide +kernel
theorem dX9_calls_76 : decode cX9_calls 76 = .ok (.aload_n 0, 1) := by decide +kernel
theorem dX9_calls_77 : decode cX9_calls 77 = .ok (.getfield 31, 3) := by decide +kernel
theorem dX9_calls_80 : decode cX9_calls 80 = .ok (.iconst 0, 1) := by decide +kernel
theorem dX9_calls_81 : decode cX9_calls 81 = .ok (.iaload, 1) := by decide +kernel
theorem dX9_calls_82 : decode cX9_calls 82 = .ok (.aload_n 0, 1) := by decide +kernel
theorem dX9_calls_83 : decode cX9_calls 83 = .ok (.getfield 31, 3) := by decide +kernel
theorem dX9_calls_86 : decode cX9_calls 86 = .ok (.iconst 1, 1) := by decide +kernel
theorem dX9_calls_87 : decode cX9_calls 87 = .ok (.iaload, 1) := by decide +kernel
theorem dX9_calls_88 : decode cX9_calls 88 = .ok (.invokevirtual 154, 3) := by decide +kernel
theorem dX9_calls_91 : decode cX9_calls 91 = .ok (.ireturn, 1) := by decide +kernel
theorem dX9_calls_92 : decode cX9_calls 92 = .ok (.aload_n 0, 1) := by decide +kernel
theorem dX9_calls_93 : decode cX9_calls 93 = .ok (.invokevirtual 157, 3) := by decide +kernel
theorem dX9_calls_96 : decode cX9_calls 96 = .ok (.ireturn, 1) := by decide +kernel
set_option maxRecDepth 20000 in
theorem ggX9_plays_X9_reads : GoodIn wsX9_plays wsX9_reads := goodIn_r _ [12, 13, 2, 14, 15, 16, 17, 11, 18, 19, 20, 21, 22, 4, 23, 24, 25, 26, 27, 28, 29, 30, 128, 129, 130, 131, 132, 133, 134, 135, 136, 137, 138, 139, 140, 141, 142, 143, 144, 145, 146] (by decide +kernel) (by decide +kernel)
set_option maxRecDepth 20000 in
theorem gX9_plays_X9_reads : GoodIn wsX9_plays (wsV RX9 163 RX9 yX9_reads wsX9_reads) := goodIn_app (goodIn_of _ (by decide +kernel)) ggX9_plays_X9_reads
set_option maxRecDepth 20000 in
theorem ggX9_plays_X9_calls : GoodIn wsX9_plays wsX9_calls := goodIn_r _ [34, 14, 30, 35, 36, 37, 11, 38, 5, 39, 23, 24, 25, 40, 41, 42, 43, 44, 45, 46, 47, 48, 49, 50, 51, 52, 53, 54, 1, 55, 56, 57, 58, 59, 60, 61, 62, 63, 64, 65, 66, 67, 7, 68, 69, 70, 71, 72, 73, 74, 75, 76, 77, 78, 79, 80, 81, 82, 83, 84, 85, 86, 87, 88, 89, 90, 91, 92, 93, 94, 95, 96, 97, 98, 99, 100, 101, 102, 103, 104, 105, 106, 107, 108, 109, 110, 111, 112, 113, 114, 115, 116, 117, 118, 119, 120, 121, 122, 123, 124, 125, 126, 127, 128, 129, 130, 131, 132, 133, 134, 135, 136, 137, 138, 139, 140, 141, 142, 143, 144, 145, 146] (by decide +kernel) (by decide +kernel)
set_option maxRecDepth 20000 in
theorem gX9_plays_X9_calls : GoodIn wsX9_plays (wsV RX9 167 RX9 yX9_calls wsX9_calls) := goodIn_app (goodIn_of _ (by decide +kernel)) ggX9_plays_X9_calls
theorem dX9_plays_0 : decode cX9_plays 0 = .ok (.aload_n 0, 1) := by decide +kernel
theorem dX9_plays_1 : decode cX9_plays 1 = .ok (.iconst 1, 1) := by decide +kernel
theorem dX9_plays_2 : decode cX9_plays 2 = .ok (.putfield 34, 3) := by decide +kernel
theorem dX9_plays_5 : decode cX9_plays 5 = .ok (.aload_n 0, 1) := by decide +kernel
theorem dX9_plays_6 : decode cX9_plays 6 = .ok (.iconst 0, 1) := by decide +kernel
theorem dX9_plays_7 : decode cX9_plays 7 = .ok (.putfield 129, 3) := by decide +kernel
theorem dX9_plays_10 : decode cX9_plays 10 = .ok (.aload_n 0, 1) := by decide +kernel
theorem dX9_plays_11 : decode cX9_plays 11 = .ok (.iconst 0, 1) := by decide +kernel
theorem dX9_plays_12 : decode cX9_plays 12 = .ok (.putfield 160, 3) := by decide +kernel
theorem dX9_plays_15 : decode cX9_plays 15 = .ok (.iconst 0, 1) := by decide +kernel
theorem dX9_plays_16 : decode cX9_plays 16 = .ok (.istore_n 1, 1) := by decide +kernel
theorem dX9_plays_17 : decode cX9_plays 17 = .ok (.iconst 1, 1) := by decide +kernel
theorem dX9_plays_18 : decode cX9_plays 18 = .ok (.istore_n 2, 1) := by decide +kernel
theorem dX9_plays_19 : decode cX9_plays 19 = .ok (.aload_n 0, 1) := by decide +kernel
theorem dX9_plays_20 : decode cX9_plays 20 = .ok (.getfield 129, 3) := by decide +kernel
theorem dX9_plays_23 : decode cX9_plays 23 = .ok (.aload_n 0, 1) := by decide +kernel
theorem dX9_plays_24 : decode cX9_plays 24 = .ok (.getfield 117, 3) := by decide +kernel
theorem dX9_plays_27 : decode cX9_plays 27 = .ok (.if_icmp .ge 75, 3) := by decide +kernel
theorem dX9_plays_30 : decode cX9_plays 30 = .ok (.iload_n 2, 1) := by decide +kernel
theorem dX9_plays_31 : decode cX9_plays 31 = .ok (.ifCond .eq 71, 3) := by decide +kernel
theorem dX9_plays_34 : decode cX9_plays 34 = .ok (.aload_n 0, 1) := by decide +kernel
theorem dX9_plays_35 : decode cX9_plays 35 = .ok (.getfield 129, 3) := by decide +kernel
theorem dX9_plays_38 : decode cX9_plays 38 = .ok (.istore_n 1, 1) := by decide +kernel
theorem dX9_plays_39 : decode cX9_plays 39 = .ok (.aload_n 0, 1) := by decide +kernel
theorem dX9_plays_40 : decode cX9_plays 40 = .ok (.invokevirtual 163, 3) := by decide +kernel
theorem dX9_plays_43 : decode cX9_plays 43 = .ok (.istore_n 3, 1) := by decide +kernel
theorem dX9_plays_44 : decode cX9_plays 44 = .ok (.iload_n 3, 1) := by decide +kernel
theorem dX9_plays_45 : decode cX9_plays 45 = .ok (.ifCond .eq 10, 3) := by decide +kernel
theorem dX9_plays_48 : decode cX9_plays 48 = .ok (.aload_n 0, 1) := by decide +kernel
theorem dX9_plays_49 : decode cX9_plays 49 = .ok (.invokevirtual 167, 3) := by decide +kernel
theorem dX9_plays_52 : decode cX9_plays 52 = .ok (.goto 4, 3) := by decide +kernel
theorem dX9_plays_55 : decode cX9_plays 55 = .ok (.iconst 0, 1) := by decide +kernel
theorem dX9_plays_56 : decode cX9_plays 56 = .ok (.istore 4, 2) := by decide +kernel
theorem dX9_plays_58 : decode cX9_plays 58 = .ok (.iload_n 3, 1) := by decide +kernel
theorem dX9_plays_59 : decode cX9_plays 59 = .ok (.ifCond .eq 14, 3) := by decide +kernel
theorem dX9_plays_62 : decode cX9_plays 62 = .ok (.iload 4, 2) := by decide +kernel
theorem dX9_plays_64 : decode cX9_plays 64 = .ok (.ldc 53, 2) := by decide +kernel
theorem dX9_plays_66 : decode cX9_plays 66 = .ok (.if_icmp .le 7, 3) := by decide +kernel
theorem dX9_plays_69 : decode cX9_plays 69 = .ok (.iconst 1, 1) := by decide +kernel
theorem dX9_plays_70 : decode cX9_plays 70 = .ok (.goto 4, 3) := by decide +kernel
theorem dX9_plays_73 : decode cX9_plays 73 = .ok (.iconst 0, 1) := by decide +kernel
theorem dX9_plays_74 : decode cX9_plays 74 = .ok (.istore_n 2, 1) := by decide +kernel
theorem dX9_plays_75 : decode cX9_plays 75 = .ok (.aload_n 0, 1) := by decide +kernel
theorem dX9_plays_76 : decode cX9_plays 76 = .ok (.iload_n 3, 1) := by decide +kernel
theorem dX9_plays_77 : decode cX9_plays 77 = .ok (.ifCond .eq 8, 3) := by decide +kernel
theorem dX9_plays_80 : decode cX9_plays 80 = .ok (.iload 4, 2) := by decide +kernel
theorem dX9_plays_82 : decode cX9_plays 82 = .ok (.goto 4, 3) := by decide +kernel
theorem dX9_plays_85 : decode cX9_plays 85 = .ok (.iconst 0, 1) := by decide +kernel
theorem dX9_plays_86 : decode cX9_plays 86 = .ok (.putfield 170, 3) := by decide +kernel
theorem dX9_plays_89 : decode cX9_plays 89 = .ok (.aload_n 0, 1) := by decide +kernel
theorem dX9_plays_90 : decode cX9_plays 90 = .ok (.dup, 1) := by decide +kernel
theorem dX9_plays_91 : decode cX9_plays 91 = .ok (.getfield 160, 3) := by decide +kernel
theorem dX9_plays_94 : decode cX9_plays 94 = .ok (.iconst 1, 1) := by decide +kernel
theorem dX9_plays_95 : decode cX9_plays 95 = .ok (.iadd, 1) := by decide +kernel
theorem dX9_plays_96 : decode cX9_plays 96 = .ok (.putfield 160, 3) := by decide +kernel
theorem dX9_plays_99 : decode cX9_plays 99 = .ok (.goto (-80), 3) := by decide +kernel
theorem dX9_plays_102 : decode cX9_plays 102 = .ok (.aload_n 0, 1) := by decide +kernel
theorem dX9_plays_103 : decode cX9_plays 103 = .ok (.iconst 0, 1) := by decide +kernel
theorem dX9_plays_104 : decode cX9_plays 104 = .ok (.putfield 34, 3) := by decide +kernel
theorem dX9_plays_107 : decode cX9_plays 107 = .ok (.iload_n 2, 1) := by decide +kernel
theorem dX9_plays_108 : decode cX9_plays 108 = .ok (.ifCond .eq 8, 3) := by decide +kernel
theorem dX9_plays_111 : decode cX9_plays 111 = .ok (.ldc 59, 2) := by decide +kernel
theorem dX9_plays_113 : decode cX9_plays 113 = .ok (.goto 4, 3) := by decide +kernel
theorem dX9_plays_116 : decode cX9_plays 116 = .ok (.iload_n 1, 1) := by decide +kernel
theorem dX9_plays_117 : decode cX9_plays 117 = .ok (.ireturn, 1) := by decide +kernel
set_option maxRecDepth 20000 in
theorem ggX9_fault_X9_in : GoodIn wsX9_fault wsX9_in := goodIn_r _ [9] (by decide +kernel) (by decide +kernel)
set_option maxRecDepth 20000 in
theorem gX9_fault_X9_in : GoodIn wsX9_fault (va_wsS RX9 42 yX9_in wsX9_in) := goodIn_app (goodIn_of _ (by decide +kernel)) ggX9_fault_X9_in
set_option maxRecDepth 20000 in
theorem ggX9_fault_X9_copies : GoodIn wsX9_fault wsX9_copies := goodIn_r _ [12] (by decide +kernel) (by decide +kernel)
set_option maxRecDepth 20000 in
theorem gX9_fault_X9_copies : GoodIn wsX9_fault (va_wsS RX9 110 yX9_copies wsX9_copies) := goodIn_app (goodIn_of _ (by decide +kernel)) ggX9_fault_X9_copies
set_option maxRecDepth 20000 in
theorem ggX9_fault_X9_plays : GoodIn wsX9_fault wsX9_plays := goodIn_r _ [16, 17, 18, 19, 20, 1, 5, 4, 21, 22, 23, 8, 24, 25, 26, 27, 28, 29, 30, 31, 32, 33, 34, 6, 7, 9, 35, 36, 37, 38, 39, 40, 41, 42, 43, 44, 45, 46, 47, 48, 49, 50, 51, 52, 2, 53, 54, 55, 56, 57, 58, 59, 60, 61, 62, 63, 64, 65, 66, 67, 68, 69, 70, 71, 72, 73, 74, 75, 76, 77, 78, 79, 80, 81, 82, 83, 84, 85, 86, 87, 88, 89, 90, 91, 92, 93, 94, 95, 96, 97, 98, 99, 100, 101, 102, 103, 104, 105, 106, 10, 11, 12, 107, 108, 109, 110, 111, 112, 113, 114, 115, 116, 117, 118, 119, 120, 121, 122, 123, 124, 125, 126, 127, 128, 129, 130, 131, 132, 133, 134, 135, 136, 137, 138, 139, 140, 141, 142, 143, 144, 145, 146, 147, 148, 149, 150, 151] (by decide +kernel) (by decide +kernel)
set_option maxRecDepth 20000 in
theorem gX9_fault_X9_plays : GoodIn wsX9_fault (wsV RX9 173 RX9 yX9_plays wsX9_plays) := goodIn_app (goodIn_of _ (by decide +kernel)) ggX9_fault_X9_plays
theorem dX9_fault_0 : decode cX9_fault 0 = .ok (.iload_n 1, 1) := by decide +kernel
theorem dX9_fault_1 : decode cX9_fault 1 = .ok (.iconst 0, 1) := by decide +kernel
theorem dX9_fault_2 : decode cX9_fault 2 = .ok (.iconst 2, 1) := by decide +kernel
theorem dX9_fault_3 : decode cX9_fault 3 = .ok (.invokestatic 42, 3) := by decide +kernel
theorem dX9_fault_6 : decode cX9_fault 6 = .ok (.ifCond .ne 6, 3) := by decide +kernel
theorem dX9_fault_9 : decode cX9_fault 9 = .ok (.ldc 53, 2) := by decide +kernel
theorem dX9_fault_11 : decode cX9_fault 11 = .ok (.ireturn, 1) := by decide +kernel
theorem dX9_fault_12 : decode cX9_fault 12 = .ok (.aload_n 0, 1) := by decide +kernel
theorem dX9_fault_13 : decode cX9_fault 13 = .ok (.getfield 7, 3) := by decide +kernel
theorem dX9_fault_16 : decode cX9_fault 16 = .ok (.aload_n 0, 1) := by decide +kernel
theorem dX9_fault_17 : decode cX9_fault 17 = .ok (.getfield 16, 3) := by decide +kernel
theorem dX9_fault_20 : decode cX9_fault 20 = .ok (.invokestatic 110, 3) := by decide +kernel
theorem dX9_fault_23 : decode cX9_fault 23 = .ok (.aload_n 0, 1) := by decide +kernel
theorem dX9_fault_24 : decode cX9_fault 24 = .ok (.invokevirtual 173, 3) := by decide +kernel
theorem dX9_fault_27 : decode cX9_fault 27 = .ok (.istore_n 2, 1) := by decide +kernel
theorem dX9_fault_28 : decode cX9_fault 28 = .ok (.aload_n 0, 1) := by decide +kernel
theorem dX9_fault_29 : decode cX9_fault 29 = .ok (.getfield 16, 3) := by decide +kernel
theorem dX9_fault_32 : decode cX9_fault 32 = .ok (.aload_n 0, 1) := by decide +kernel
theorem dX9_fault_33 : decode cX9_fault 33 = .ok (.getfield 7, 3) := by decide +kernel
theorem dX9_fault_36 : decode cX9_fault 36 = .ok (.invokestatic 110, 3) := by decide +kernel
theorem dX9_fault_39 : decode cX9_fault 39 = .ok (.iload_n 2, 1) := by decide +kernel
theorem dX9_fault_40 : decode cX9_fault 40 = .ok (.ldc 59, 2) := by decide +kernel
theorem dX9_fault_42 : decode cX9_fault 42 = .ok (.if_icmp .eq 7, 3) := by decide +kernel
theorem dX9_fault_45 : decode cX9_fault 45 = .ok (.iload_n 1, 1) := by decide +kernel
theorem dX9_fault_46 : decode cX9_fault 46 = .ok (.ifCond .ne 7, 3) := by decide +kernel
theorem dX9_fault_49 : decode cX9_fault 49 = .ok (.iload_n 2, 1) := by decide +kernel
theorem dX9_fault_50 : decode cX9_fault 50 = .ok (.goto 39, 3) := by decide +kernel
theorem dX9_fault_53 : decode cX9_fault 53 = .ok (.iload_n 1, 1) := by decide +kernel
theorem dX9_fault_54 : decode cX9_fault 54 = .ok (.iconst 1, 1) := by decide +kernel
theorem dX9_fault_55 : decode cX9_fault 55 = .ok (.if_icmp .ne 18, 3) := by decide +kernel
theorem dX9_fault_58 : decode cX9_fault 58 = .ok (.aload_n 0, 1) := by decide +kernel
theorem dX9_fault_59 : decode cX9_fault 59 = .ok (.getfield 170, 3) := by decide +kernel
theorem dX9_fault_62 : decode cX9_fault 62 = .ok (.ifCond .ne 7, 3) := by decide +kernel
theorem dX9_fault_65 : decode cX9_fault 65 = .ok (.iconst 1, 1) := by decide +kernel
theorem dX9_fault_66 : decode cX9_fault 66 = .ok (.goto 23, 3) := by decide +kernel
theorem dX9_fault_69 : decode cX9_fault 69 = .ok (.iconst 2, 1) := by decide +kernel
theorem dX9_fault_70 : decode cX9_fault 70 = .ok (.goto 19, 3) := by decide +kernel
theorem dX9_fault_73 : decode cX9_fault 73 = .ok (.aload_n 0, 1) := by decide +kernel
theorem dX9_fault_74 : decode cX9_fault 74 = .ok (.getfield 170, 3) := by decide +kernel
theorem dX9_fault_77 : decode cX9_fault 77 = .ok (.ifCond .ne 8, 3) := by decide +kernel
theorem dX9_fault_80 : decode cX9_fault 80 = .ok (.ldc 59, 2) := by decide +kernel
theorem dX9_fault_82 : decode cX9_fault 82 = .ok (.goto 7, 3) := by decide +kernel
theorem dX9_fault_85 : decode cX9_fault 85 = .ok (.aload_n 0, 1) := by decide +kernel
theorem dX9_fault_86 : decode cX9_fault 86 = .ok (.getfield 170, 3) := by decide +kernel
theorem dX9_fault_89 : decode cX9_fault 89 = .ok (.ireturn, 1) := by decide +kernel
set_option maxRecDepth 20000 in
theorem ggX9_play_X9_copies : GoodIn wsX9_play wsX9_copies := goodIn_r _ [9] (by decide +kernel) (by decide +kernel)
set_option maxRecDepth 20000 in
theorem gX9_play_X9_copies : GoodIn wsX9_play (va_wsS RX9 110 yX9_copies wsX9_copies) := goodIn_app (goodIn_of _ (by decide +kernel)) ggX9_play_X9_copies
set_option maxRecDepth 20000 in
theorem ggX9_play_X9_plays : GoodIn wsX9_play wsX9_plays := goodIn_r _ [13, 14, 15, 5, 16, 17, 18, 3, 19, 20, 21, 8, 22, 23, 24, 25, 26, 27, 28, 29, 30, 31, 32, 33, 34, 35, 36, 37, 38, 39, 40, 41, 42, 43, 44, 45, 46, 47, 48, 4, 49, 50, 51, 52, 1, 53, 54, 55, 56, 57, 58, 59, 60, 61, 62, 63, 64, 65, 66, 67, 68, 69, 70, 71, 72, 73, 74, 75, 76, 77, 78, 79, 80, 81, 82, 83, 84, 85, 86, 87, 88, 89, 90, 91, 92, 93, 94, 95, 96, 97, 98, 99, 100, 101, 102, 103, 104, 105, 106, 6, 7, 9, 107, 108, 109, 110, 111, 112, 113, 114, 115, 116, 117, 118, 119, 120, 121, 122, 123, 124, 125, 126, 127, 128, 129, 130, 131, 132, 133, 134, 135, 136, 137, 138, 139, 140, 141, 142, 143, 144, 145, 146, 147, 148, 149, 150, 151] (by decide +kernel) (by decide +kernel)
set_option maxRecDepth 20000 in
theorem gX9_play_X9_plays : GoodIn wsX9_play (wsV RX9 173 RX9 yX9_plays wsX9_plays) := goodIn_app (goodIn_of _ (by decide +kernel)) ggX9_play_X9_plays
set_option maxRecDepth 20000 in
theorem ggX9_play_X9_changes : GoodIn wsX9_play wsX9_changes := goodIn_r _ [62, 14, 63, 64, 1, 133, 134, 135, 136, 137, 138, 139, 140, 141, 142, 143, 144, 145, 146, 147, 148, 149, 150, 151] (by decide +kernel) (by decide +kernel)
set_option maxRecDepth 20000 in
theorem gX9_play_X9_changes : GoodIn wsX9_play (wsV RX9 54 RX9 yX9_changes wsX9_changes) := goodIn_app (goodIn_of _ (by decide +kernel)) ggX9_play_X9_changes
theorem dX9_play_0 : decode cX9_play 0 = .ok (.aload_n 0, 1) := by decide +kernel
theorem dX9_play_1 : decode cX9_play 1 = .ok (.getfield 7, 3) := by decide +kernel
theorem dX9_play_4 : decode cX9_play 4 = .ok (.aload_n 0, 1) := by decide +kernel
theorem dX9_play_5 : decode cX9_play 5 = .ok (.getfield 16, 3) := by decide +kernel
theorem dX9_play_8 : decode cX9_play 8 = .ok (.invokestatic 110, 3) := by decide +kernel
theorem dX9_play_11 : decode cX9_play 11 = .ok (.aload_n 0, 1) := by decide +kernel
theorem dX9_play_12 : decode cX9_play 12 = .ok (.invokevirtual 173, 3) := by decide +kernel
theorem dX9_play_15 : decode cX9_play 15 = .ok (.istore_n 1, 1) := by decide +kernel
theorem dX9_play_16 : decode cX9_play 16 = .ok (.aload_n 0, 1) := by decide +kernel
theorem dX9_play_17 : decode cX9_play 17 = .ok (.getfield 16, 3) := by decide +kernel
theorem dX9_play_20 : decode cX9_play 20 = .ok (.aload_n 0, 1) := by decide +kernel
theorem dX9_play_21 : decode cX9_play 21 = .ok (.getfield 7, 3) := by decide +kernel
theorem dX9_play_24 : decode cX9_play 24 = .ok (.invokestatic 110, 3) := by decide +kernel
theorem dX9_play_27 : decode cX9_play 27 = .ok (.iload_n 1, 1) := by decide +kernel
theorem dX9_play_28 : decode cX9_play 28 = .ok (.ldc 59, 2) := by decide +kernel
theorem dX9_play_30 : decode cX9_play 30 = .ok (.if_icmp .eq 6, 3) := by decide +kernel
theorem dX9_play_33 : decode cX9_play 33 = .ok (.ldc 58, 2) := by decide +kernel
theorem dX9_play_35 : decode cX9_play 35 = .ok (.ireturn, 1) := by decide +kernel
theorem dX9_play_36 : decode cX9_play 36 = .ok (.aload_n 0, 1) := by decide +kernel
theorem dX9_play_37 : decode cX9_play 37 = .ok (.invokevirtual 54, 3) := by decide +kernel
theorem dX9_play_40 : decode cX9_play 40 = .ok (.aload_n 0, 1) := by decide +kernel
theorem dX9_play_41 : decode cX9_play 41 = .ok (.invokevirtual 173, 3) := by decide +kernel
theorem dX9_play_44 : decode cX9_play 44 = .ok (.ldc 59, 2) := by decide +kernel
theorem dX9_play_46 : decode cX9_play 46 = .ok (.if_icmp .ne 10, 3) := by decide +kernel
theorem dX9_play_49 : decode cX9_play 49 = .ok (.aload_n 0, 1) := by decide +kernel
theorem dX9_play_50 : decode cX9_play 50 = .ok (.getfield 160, 3) := by decide +kernel
theorem dX9_play_53 : decode cX9_play 53 = .ok (.goto 5, 3) := by decide +kernel
theorem dX9_play_56 : decode cX9_play 56 = .ok (.ldc 59, 2) := by decide +kernel
theorem dX9_play_58 : decode cX9_play 58 = .ok (.ireturn, 1) := by decide +kernel
theorem dJxf58ca_isNaN_12338_0 : decode cJxf58ca_isNaN_12338 0 = .ok (.fload_n 0, 1) := by decide +kernel
theorem dJxf58ca_isNaN_12338_1 : decode cJxf58ca_isNaN_12338 1 = .ok (.fload_n 0, 1) := by decide +kernel
theorem dJxf58ca_isNaN_12338_2 : decode cJxf58ca_isNaN_12338 2 = .ok (.fcmp .l, 1) := by decide +kernel
theorem dJxf58ca_isNaN_12338_3 : decode cJxf58ca_isNaN_12338 3 = .ok (.ifCond .eq 7, 3) := by decide +kernel
theorem dJxf58ca_isNaN_12338_6 : decode cJxf58ca_isNaN_12338 6 = .ok (.iconst 1, 1) := by decide +kernel
theorem dJxf58ca_isNaN_12338_7 : decode cJxf58ca_isNaN_12338 7 = .ok (.goto 4, 3) := by decide +kernel
theorem dJxf58ca_isNaN_12338_10 : decode cJxf58ca_isNaN_12338 10 = .ok (.iconst 0, 1) := by decide +kernel
theorem dJxf58ca_isNaN_12338_11 : decode cJxf58ca_isNaN_12338 11 = .ok (.ireturn, 1) := by decide +kernel
set_option maxRecDepth 20000 in
theorem ggJxf58ca_floatToIntBits_5c35a_Jxf58ca_isNaN_12338 : GoodIn wsJxf58ca_floatToIntBits_5c35a wsJxf58ca_isNaN_12338 := goodIn_r _ [9] (by decide +kernel) (by decide +kernel)
set_option maxRecDepth 20000 in
theorem gJxf58ca_floatToIntBits_5c35a_Jxf58ca_isNaN_12338 : GoodIn wsJxf58ca_floatToIntBits_5c35a (va_wsS RJxf58ca 59 yJxf58ca_isNaN_12338 wsJxf58ca_isNaN_12338) := goodIn_app (goodIn_of _ (by decide +kernel)) ggJxf58ca_floatToIntBits_5c35a_Jxf58ca_isNaN_12338
theorem dJxf58ca_floatToIntBits_5c35a_0 : decode cJxf58ca_floatToIntBits_5c35a 0 = .ok (.fload_n 0, 1) := by decide +kernel
theorem dJxf58ca_floatToIntBits_5c35a_1 : decode cJxf58ca_floatToIntBits_5c35a 1 = .ok (.invokestatic 59, 3) := by decide +kernel
theorem dJxf58ca_floatToIntBits_5c35a_4 : decode cJxf58ca_floatToIntBits_5c35a 4 = .ok (.ifCond .ne 8, 3) := by decide +kernel
theorem dJxf58ca_floatToIntBits_5c35a_7 : decode cJxf58ca_floatToIntBits_5c35a 7 = .ok (.fload_n 0, 1) := by decide +kernel
theorem dJxf58ca_floatToIntBits_5c35a_8 : decode cJxf58ca_floatToIntBits_5c35a 8 = .ok (.invokestatic 74, 3) := by decide +kernel
theorem dJxf58ca_floatToIntBits_5c35a_11 : decode cJxf58ca_floatToIntBits_5c35a 11 = .ok (.ireturn, 1) := by decide +kernel
theorem dJxf58ca_floatToIntBits_5c35a_12 : decode cJxf58ca_floatToIntBits_5c35a 12 = .ok (.ldc 77, 2) := by decide +kernel
theorem dJxf58ca_floatToIntBits_5c35a_14 : decode cJxf58ca_floatToIntBits_5c35a 14 = .ok (.ireturn, 1) := by decide +kernel
theorem dJ9_abs_0f7a4_0 : decode cJ9_abs_0f7a4 0 = .ok (.iload_n 0, 1) := by decide +kernel
theorem dJ9_abs_0f7a4_1 : decode cJ9_abs_0f7a4 1 = .ok (.ifCond .ge 8, 3) := by decide +kernel
theorem dJ9_abs_0f7a4_4 : decode cJ9_abs_0f7a4 4 = .ok (.iload_n 0, 1) := by decide +kernel
theorem dJ9_abs_0f7a4_5 : decode cJ9_abs_0f7a4 5 = .ok (.ineg, 1) := by decide +kernel
theorem dJ9_abs_0f7a4_6 : decode cJ9_abs_0f7a4 6 = .ok (.goto 4, 3) := by decide +kernel
theorem dJ9_abs_0f7a4_9 : decode cJ9_abs_0f7a4 9 = .ok (.iload_n 0, 1) := by decide +kernel
theorem dJ9_abs_0f7a4_10 : decode cJ9_abs_0f7a4 10 = .ok (.ireturn, 1) := by decide +kernel
theorem dJ9_max_7cf53_0 : decode cJ9_max_7cf53 0 = .ok (.iload_n 0, 1) := by decide +kernel
theorem dJ9_max_7cf53_1 : decode cJ9_max_7cf53 1 = .ok (.iload_n 1, 1) := by decide +kernel
theorem dJ9_max_7cf53_2 : decode cJ9_max_7cf53 2 = .ok (.if_icmp .lt 7, 3) := by decide +kernel
theorem dJ9_max_7cf53_5 : decode cJ9_max_7cf53 5 = .ok (.iload_n 0, 1) := by decide +kernel
theorem dJ9_max_7cf53_6 : decode cJ9_max_7cf53 6 = .ok (.goto 4, 3) := by decide +kernel
theorem dJ9_max_7cf53_9 : decode cJ9_max_7cf53 9 = .ok (.iload_n 1, 1) := by decide +kernel
theorem dJ9_max_7cf53_10 : decode cJ9_max_7cf53 10 = .ok (.ireturn, 1) := by decide +kernel
theorem dJ9_min_7cf53_0 : decode cJ9_min_7cf53 0 = .ok (.iload_n 0, 1) := by decide +kernel
theorem dJ9_min_7cf53_1 : decode cJ9_min_7cf53 1 = .ok (.iload_n 1, 1) := by decide +kernel
theorem dJ9_min_7cf53_2 : decode cJ9_min_7cf53 2 = .ok (.if_icmp .gt 7, 3) := by decide +kernel
theorem dJ9_min_7cf53_5 : decode cJ9_min_7cf53 5 = .ok (.iload_n 0, 1) := by decide +kernel
theorem dJ9_min_7cf53_6 : decode cJ9_min_7cf53 6 = .ok (.goto 4, 3) := by decide +kernel
theorem dJ9_min_7cf53_9 : decode cJ9_min_7cf53 9 = .ok (.iload_n 1, 1) := by decide +kernel
theorem dJ9_min_7cf53_10 : decode cJ9_min_7cf53 10 = .ok (.ireturn, 1) := by decide +kernel
set_option maxRecDepth 20000 in
theorem ggL_law_X8_init : GoodIn wsL_law wsX8_init := goodIn_r _ [8, 9, 10, 11, 12, 13, 14, 15, 16, 17, 18, 19, 20, 21, 22, 23, 24, 25, 26, 27, 28, 29, 30, 31, 32, 33, 34, 35, 36, 37, 38, 39, 40, 41, 42, 43, 44, 45, 46, 47, 48, 49, 50, 51, 52, 53, 54, 55, 56, 57, 58, 59, 60, 61, 62, 63, 64, 65, 66, 67, 68, 69, 70, 71, 72, 73, 74, 75, 76, 77, 78, 79, 80, 81, 82, 83, 84, 85, 86, 87, 88, 89, 90, 91, 749, 750, 751, 752, 753, 754, 755, 756, 757, 758, 759, 760, 761, 724, 725, 726, 727, 728, 729, 762, 763, 764, 765, 766, 767, 768, 769, 770, 771, 772, 773, 774, 775, 776, 777, 778, 779, 780, 781, 782, 783, 784, 785] (by decide +kernel) (by decide +kernel)
set_option maxRecDepth 20000 in
theorem gL_law_X8_init : GoodIn wsL_law (wsX8_init) := ggL_law_X8_init
set_option maxRecDepth 20000 in
theorem ggL_law_X9_init : GoodIn wsL_law wsX9_init := goodIn_r _ [94, 95, 10, 11, 56, 96, 97, 98, 99, 100, 101, 102, 103, 730, 731, 732, 733, 734, 735, 736, 737, 738, 739, 740, 741, 742, 743, 744, 745, 746, 747, 748] (by decide +kernel) (by decide +kernel)
set_option maxRecDepth 20000 in
theorem gL_law_X9_init : GoodIn wsL_law (wsX9_init) := ggL_law_X9_init
set_option maxRecDepth 20000 in
theorem ggL_law_X8_set : GoodIn wsL_law wsX8_set := goodIn_r _ [107, 108, 109, 110, 2, 111, 16, 15, 112, 113, 114, 14, 115, 42, 116, 117, 118, 119, 46, 50, 51, 52, 120, 121, 122, 123, 124, 125, 126, 127, 128, 129, 130, 45, 131, 57, 132, 58, 59, 133, 134, 135, 136, 49, 137, 63, 138, 139, 140, 141, 142, 143, 144, 145, 146, 147, 148, 149, 150, 20, 151, 152, 153, 154, 155, 156, 157, 19, 158, 159, 69, 160, 161, 162, 163, 164, 724, 725, 726, 727, 728, 729, 749, 750, 751, 752, 753, 754, 755, 756, 757, 758, 759, 760, 761, 775, 776, 777, 778, 779, 780, 762, 763] (by decide +kernel) (by decide +kernel)
set_option maxRecDepth 20000 in
theorem gL_law_X8_set : GoodIn wsL_law (wsV RL 13 RX8 yX8_set wsX8_set) := goodIn_app (goodIn_of _ (by decide +kernel)) ggL_law_X8_set
set_option maxRecDepth 20000 in
theorem ggL_law_X9_set : GoodIn wsL_law wsX9_set := goodIn_r _ [168, 169, 96, 170, 171, 5, 172, 173, 174, 175, 176, 177, 178, 179, 180, 181, 182, 183, 184, 97, 730, 731, 732, 733, 734, 735, 736, 737, 738, 739, 740, 741, 742, 743, 744, 745, 746, 747, 748] (by decide +kernel) (by decide +kernel)
set_option maxRecDepth 20000 in
theorem gL_law_X9_set : GoodIn wsL_law (wsV RL 17 RX9 yX9_set wsX9_set) := goodIn_app (goodIn_of _ (by decide +kernel)) ggL_law_X9_set
set_option maxRecDepth 20000 in
theorem ggL_law_X8_limits : GoodIn wsL_law wsX8_limits := goodIn_r _ [188, 108, 109, 110, 2, 111, 16, 15, 112, 113, 114, 14, 115, 42, 116, 117, 118, 119, 46, 50, 51, 52, 120, 121, 122, 123, 124, 125, 126, 127, 128, 129, 130, 45, 131, 57, 132, 58, 59, 133, 134, 135, 136, 49, 137, 63, 138, 139, 189, 190, 191, 192, 144, 145, 146, 147, 148, 149, 150, 20, 151, 152, 153, 154, 155, 156, 157, 19, 158, 159, 69, 160, 161, 162, 163, 164, 724, 725, 726, 727, 728, 729, 749, 750, 751, 752, 753, 754, 755, 756, 757, 758, 759, 760, 761, 775, 776, 777, 778, 779, 780, 762, 763] (by decide +kernel) (by decide +kernel)
set_option maxRecDepth 20000 in
theorem gL_law_X8_limits : GoodIn wsL_law (wsV RL 18 RX8 yX8_limits wsX8_limits) := goodIn_app (goodIn_of _ (by decide +kernel)) ggL_law_X8_limits
set_option maxRecDepth 20000 in
theorem ggL_law_X9_limits : GoodIn wsL_law wsX9_limits := goodIn_r _ [196, 169, 96, 170, 171, 5, 172, 179, 180, 181, 182, 183, 184, 97, 730, 731, 732, 733, 734, 735, 736, 737, 738, 739, 740, 741, 742, 743, 744, 745, 746, 747, 748] (by decide +kernel) (by decide +kernel)
set_option maxRecDepth 20000 in
theorem gL_law_X9_limits : GoodIn wsL_law (wsV RL 21 RX9 yX9_limits wsX9_limits) := goodIn_app (goodIn_of _ (by decide +kernel)) ggL_law_X9_limits
set_option maxRecDepth 20000 in
theorem ggL_law_X8_load : GoodIn wsL_law wsX8_load := goodIn_r _ [200, 108, 109, 110, 2, 111, 16, 15, 112, 113, 114, 14, 115, 42, 116, 117, 118, 119, 46, 50, 51, 52, 120, 121, 122, 123, 124, 125, 126, 127, 128, 129, 130, 45, 131, 57, 132, 58, 59, 133, 134, 135, 136, 49, 137, 63, 138, 139, 201, 202, 203, 204, 205, 206, 145, 146, 147, 148, 149, 150, 20, 151, 152, 153, 154, 155, 156, 157, 19, 158, 159, 69, 160, 161, 162, 163, 164, 749, 750, 751, 752, 753, 754, 755, 756, 757, 758, 759, 760, 761, 724, 725, 726, 727, 728, 729, 775, 776, 777, 778, 779, 780, 762, 763] (by decide +kernel) (by decide +kernel)
set_option maxRecDepth 20000 in
theorem gL_law_X8_load : GoodIn wsL_law (wsV RL 22 RX8 yX8_load wsX8_load) := goodIn_app (goodIn_of _ (by decide +kernel)) ggL_law_X8_load
set_option maxRecDepth 20000 in
theorem ggL_law_X9_load : GoodIn wsL_law wsX9_load := goodIn_r _ [210, 169, 96, 211, 170, 171, 5, 172, 179, 180, 181, 182, 183, 184, 97, 730, 731, 732, 733, 734, 735, 736, 737, 738, 739, 740, 741, 742, 743, 744, 745, 746, 747, 748] (by decide +kernel) (by decide +kernel)
set_option maxRecDepth 20000 in
theorem gL_law_X9_load : GoodIn wsL_law (wsV RL 26 RX9 yX9_load wsX9_load) := goodIn_app (goodIn_of _ (by decide +kernel)) ggL_law_X9_load
set_option maxRecDepth 20000 in
theorem ggL_law_X8_dropLoad : GoodIn wsL_law wsX8_dropLoad := goodIn_r _ [215, 108, 109, 110, 2, 111, 16, 15, 112, 113, 114, 14, 115, 42, 116, 117, 118, 119, 46, 50, 51, 52, 120, 121, 122, 123, 124, 125, 126, 127, 128, 129, 130, 45, 131, 57, 132, 58, 59, 133, 134, 135, 136, 49, 137, 63, 138, 139, 216, 217, 218, 219, 205, 220, 147, 148, 149, 150, 20, 151, 152, 153, 154, 155, 156, 157, 19, 158, 159, 69, 160, 161, 162, 163, 164, 749, 750, 751, 752, 753, 754, 755, 756, 757, 758, 759, 760, 761, 724, 725, 726, 727, 728, 729, 775, 776, 777, 778, 779, 780, 762, 763] (by decide +kernel) (by decide +kernel)
set_option maxRecDepth 20000 in
theorem gL_law_X8_dropLoad : GoodIn wsL_law (wsV RL 27 RX8 yX8_dropLoad wsX8_dropLoad) := goodIn_app (goodIn_of _ (by decide +kernel)) ggL_law_X8_dropLoad
set_option maxRecDepth 20000 in
theorem ggL_law_X9_dropLoad : GoodIn wsL_law wsX9_dropLoad := goodIn_r _ [224, 169, 96, 225, 179, 180, 181, 5, 182, 183, 184, 97, 730, 731, 732, 733, 734, 735, 736, 737, 738, 739, 740, 741, 742, 743, 744, 745, 746, 747, 748] (by decide +kernel) (by decide +kernel)
set_option maxRecDepth 20000 in
theorem gL_law_X9_dropLoad : GoodIn wsL_law (wsV RL 31 RX9 yX9_dropLoad wsX9_dropLoad) := goodIn_app (goodIn_of _ (by decide +kernel)) ggL_law_X9_dropLoad
set_option maxRecDepth 20000 in
theorem ggL_law_X8_loadOf : GoodIn wsL_law wsX8_loadOf := goodIn_r _ [229, 15, 230, 231, 232, 45, 233, 205, 133, 234, 57, 58, 59, 145, 2, 146, 724, 725, 726, 727, 728, 729, 749, 750, 751, 752, 753, 754, 755, 756, 757, 758, 759, 760, 761, 775, 776, 777, 778] (by decide +kernel) (by decide +kernel)
set_option maxRecDepth 20000 in
theorem gL_law_X8_loadOf : GoodIn wsL_law (wsV RL 32 RX8 yX8_loadOf wsX8_loadOf) := goodIn_app (goodIn_of _ (by decide +kernel)) ggL_law_X8_loadOf
set_option maxRecDepth 20000 in
theorem ggL_law_X9_loadOf : GoodIn wsL_law wsX9_loadOf := goodIn_r _ [238, 169, 96, 239, 170, 171, 5, 172, 730, 731, 732, 733, 734, 735, 736, 737, 738, 739, 740, 741, 742, 743, 744, 745, 746, 747, 748] (by decide +kernel) (by decide +kernel)
set_option maxRecDepth 20000 in
theorem gL_law_X9_loadOf : GoodIn wsL_law (wsV RL 35 RX9 yX9_loadOf wsX9_loadOf) := goodIn_app (goodIn_of _ (by decide +kernel)) ggL_law_X9_loadOf
set_option maxRecDepth 20000 in
theorem ggL_law_X8_loadAt : GoodIn wsL_law wsX8_loadAt := goodIn_r _ [243, 15, 154, 244, 145, 2, 146, 245, 246, 247, 45, 248, 133, 57, 58, 59, 724, 725, 726, 727, 728, 729, 749, 750, 751, 752, 753, 754, 755, 756, 757, 758, 759, 760, 761, 775, 776, 777, 778] (by decide +kernel) (by decide +kernel)
set_option maxRecDepth 20000 in
theorem gL_law_X8_loadAt : GoodIn wsL_law (wsV RL 36 RX8 yX8_loadAt wsX8_loadAt) := goodIn_app (goodIn_of _ (by decide +kernel)) ggL_law_X8_loadAt
set_option maxRecDepth 20000 in
theorem ggL_law_X9_loadAt : GoodIn wsL_law wsX9_loadAt := goodIn_r _ [252, 169, 170, 171, 5, 172, 253, 254, 255, 256, 96, 730, 731, 732, 733, 734, 735, 736, 737, 738, 739, 740, 741, 742, 743, 744, 745, 746, 747, 748] (by decide +kernel) (by decide +kernel)
set_option maxRecDepth 20000 in
theorem gL_law_X9_loadAt : GoodIn wsL_law (wsV RL 39 RX9 yX9_loadAt wsX9_loadAt) := goodIn_app (goodIn_of _ (by decide +kernel)) ggL_law_X9_loadAt
set_option maxRecDepth 20000 in
theorem ggL_law_X8_ramp : GoodIn wsL_law wsX8_ramp := goodIn_r _ [260, 154, 24, 15, 261, 244, 145, 2, 146, 262, 263, 264, 23, 265, 76, 266, 267, 268, 75, 269, 270, 271, 272, 273, 80, 81, 82, 83, 274, 275, 276, 277, 278, 279, 280, 281, 282, 283, 284, 285, 286, 287, 288, 289, 290, 291, 292, 293, 724, 725, 726, 727, 728, 729, 781, 782, 783, 784, 785, 764, 749, 750, 751, 752, 753, 754, 755, 756, 757, 758, 759, 760, 761] (by decide +kernel) (by decide +kernel)
set_option maxRecDepth 20000 in
theorem gL_law_X8_ramp : GoodIn wsL_law (wsV RL 40 RX8 yX8_ramp wsX8_ramp) := goodIn_app (goodIn_of _ (by decide +kernel)) ggL_law_X8_ramp
set_option maxRecDepth 20000 in
theorem ggL_law_X9_ramp : GoodIn wsL_law wsX9_ramp := goodIn_r _ [297, 169, 298, 239, 101, 102, 170, 171, 5, 172, 299, 300, 301, 302, 96, 303, 304, 305, 306, 730, 731, 732, 733, 734, 735, 736, 737, 738, 739, 740, 741, 742, 743, 744, 745, 746, 747, 748] (by decide +kernel) (by decide +kernel)
set_option maxRecDepth 20000 in
theorem gL_law_X9_ramp : GoodIn wsL_law (wsV RL 43 RX9 yX9_ramp wsX9_ramp) := goodIn_app (goodIn_of _ (by decide +kernel)) ggL_law_X9_ramp
set_option maxRecDepth 20000 in
theorem ggL_law_X8_top : GoodIn wsL_law wsX8_top := goodIn_r _ [310, 24, 15, 262, 263, 264, 23, 265, 76, 266, 267, 268, 75, 269, 270, 271, 272, 273, 80, 81, 82, 83, 274, 275, 276, 277, 724, 725, 726, 727, 728, 729, 781, 782, 783, 784, 785, 764, 749, 750, 751, 752, 753, 754, 755, 756, 757, 758, 759, 760, 761] (by decide +kernel) (by decide +kernel)
set_option maxRecDepth 20000 in
theorem gL_law_X8_top : GoodIn wsL_law (wsV RL 44 RX8 yX8_top wsX8_top) := goodIn_app (goodIn_of _ (by decide +kernel)) ggL_law_X8_top
set_option maxRecDepth 20000 in
theorem ggL_law_X9_top : GoodIn wsL_law wsX9_top := goodIn_r _ [314, 298, 299, 300, 301, 5, 302, 101, 96, 102, 730, 731, 732, 733, 734, 735, 736, 737, 738, 739, 740, 741, 742, 743, 744, 745, 746, 747, 748] (by decide +kernel) (by decide +kernel)
set_option maxRecDepth 20000 in
theorem gL_law_X9_top : GoodIn wsL_law (wsV RL 48 RX9 yX9_top wsX9_top) := goodIn_app (goodIn_of _ (by decide +kernel)) ggL_law_X9_top
set_option maxRecDepth 20000 in
theorem ggL_law_X8_timeOf : GoodIn wsL_law wsX8_timeOf := goodIn_r _ [318, 24, 15, 154, 244, 145, 2, 146, 262, 263, 264, 23, 265, 76, 266, 267, 268, 75, 269, 270, 271, 272, 273, 80, 81, 82, 83, 274, 275, 276, 277, 319, 320, 321, 322, 323, 291, 292, 293, 324, 279, 280, 281, 724, 725, 726, 727, 728, 729, 764, 749, 750, 751, 752, 753, 754, 755, 756, 757, 758, 759, 760, 761, 781, 782, 783, 784, 785] (by decide +kernel) (by decide +kernel)
set_option maxRecDepth 20000 in
theorem gL_law_X8_timeOf : GoodIn wsL_law (wsV RL 49 RX8 yX8_timeOf wsX8_timeOf) := goodIn_app (goodIn_of _ (by decide +kernel)) ggL_law_X8_timeOf
set_option maxRecDepth 20000 in
theorem ggL_law_X9_timeOf : GoodIn wsL_law wsX9_timeOf := goodIn_r _ [328, 169, 101, 170, 171, 5, 172, 299, 300, 301, 302, 298, 96, 102, 329, 330, 331, 332, 730, 731, 732, 733, 734, 735, 736, 737, 738, 739, 740, 741, 742, 743, 744, 745, 746, 747, 748] (by decide +kernel) (by decide +kernel)
set_option maxRecDepth 20000 in
theorem gL_law_X9_timeOf : GoodIn wsL_law (wsV RL 52 RX9 yX9_timeOf wsX9_timeOf) := goodIn_app (goodIn_of _ (by decide +kernel)) ggL_law_X9_timeOf
set_option maxRecDepth 20000 in
theorem ggL_law_X8_move : GoodIn wsL_law wsX8_move := goodIn_r _ [336, 24, 108, 109, 110, 2, 111, 16, 15, 112, 113, 114, 14, 115, 42, 116, 117, 118, 119, 46, 50, 51, 52, 120, 121, 122, 123, 124, 125, 126, 127, 128, 129, 130, 45, 131, 57, 132, 58, 59, 133, 134, 135, 136, 49, 137, 63, 138, 139, 337, 338, 339, 23, 340, 76, 341, 342, 272, 343, 344, 345, 346, 347, 348, 349, 145, 146, 266, 267, 268, 75, 269, 270, 271, 273, 80, 81, 82, 83, 274, 275, 276, 277, 350, 351, 352, 353, 354, 355, 356, 357, 279, 280, 281, 358, 287, 288, 289, 359, 360, 361, 362, 363, 364, 365, 366, 246, 247, 248, 367, 368, 369, 370, 371, 320, 321, 322, 323, 291, 292, 293, 324, 372, 373, 374, 375, 376, 377, 378, 379, 147, 148, 149, 150, 20, 151, 152, 153, 154, 155, 156, 157, 19, 158, 159, 69, 160, 161, 162, 163, 164, 724, 725, 726, 727, 728, 729, 749, 750, 751, 752, 753, 754, 755, 756, 757, 758, 759, 760, 761, 775, 776, 777, 778, 779, 780, 764, 781, 782, 783, 784, 785, 762, 763] (by decide +kernel) (by decide +kernel)
set_option maxRecDepth 20000 in
theorem gL_law_X8_move : GoodIn wsL_law (wsV RL 53 RX8 yX8_move wsX8_move) := goodIn_app (goodIn_of _ (by decide +kernel)) ggL_law_X8_move
set_option maxRecDepth 20000 in
theorem ggL_law_X9_move : GoodIn wsL_law wsX9_move := goodIn_r _ [383, 169, 225, 170, 171, 5, 172, 384, 385, 386, 387, 96, 388, 389, 390, 391, 392, 393, 179, 180, 181, 182, 183, 184, 97, 299, 300, 301, 302, 298, 101, 102, 394, 395, 396, 397, 239, 398, 329, 330, 331, 332, 399, 400, 401, 402, 403, 253, 254, 255, 256, 303, 304, 305, 306, 404, 405, 406, 407, 730, 731, 732, 733, 734, 735, 736, 737, 738, 739, 740, 741, 742, 743, 744, 745, 746, 747, 748] (by decide +kernel) (by decide +kernel)
set_option maxRecDepth 20000 in
theorem gL_law_X9_move : GoodIn wsL_law (wsV RL 56 RX9 yX9_move wsX9_move) := goodIn_app (goodIn_of _ (by decide +kernel)) ggL_law_X9_move
set_option maxRecDepth 20000 in
theorem ggL_law_X8_moveBy : GoodIn wsL_law wsX8_moveBy := goodIn_r _ [411, 24, 108, 109, 110, 2, 111, 16, 15, 112, 113, 114, 14, 115, 42, 116, 117, 118, 119, 46, 50, 51, 52, 120, 121, 122, 123, 124, 125, 126, 127, 128, 129, 130, 45, 131, 57, 132, 58, 59, 133, 134, 135, 136, 49, 137, 63, 138, 139, 412, 413, 414, 23, 415, 348, 349, 145, 146, 416, 338, 339, 340, 76, 341, 342, 272, 343, 344, 345, 346, 347, 266, 267, 268, 75, 269, 270, 271, 273, 80, 81, 82, 83, 274, 275, 276, 277, 350, 351, 352, 353, 354, 355, 356, 357, 279, 280, 281, 358, 287, 288, 289, 359, 360, 361, 362, 363, 364, 365, 366, 246, 247, 248, 367, 368, 369, 370, 371, 320, 321, 322, 323, 291, 292, 293, 324, 372, 373, 374, 375, 376, 377, 378, 379, 147, 148, 149, 150, 20, 151, 152, 153, 154, 155, 156, 157, 19, 158, 159, 69, 160, 161, 162, 163, 164, 724, 725, 726, 727, 728, 729, 749, 750, 751, 752, 753, 754, 755, 756, 757, 758, 759, 760, 761, 775, 776, 777, 778, 779, 780, 764, 781, 782, 783, 784, 785, 762, 763] (by decide +kernel) (by decide +kernel)
set_option maxRecDepth 20000 in
theorem gL_law_X8_moveBy : GoodIn wsL_law (wsV RL 57 RX8 yX8_moveBy wsX8_moveBy) := goodIn_app (goodIn_of _ (by decide +kernel)) ggL_law_X8_moveBy
set_option maxRecDepth 20000 in
theorem ggL_law_X9_moveBy : GoodIn wsL_law wsX9_moveBy := goodIn_r _ [420, 169, 96, 225, 170, 171, 5, 172, 384, 385, 386, 387, 388, 389, 390, 391, 392, 393, 179, 180, 181, 182, 183, 184, 97, 299, 300, 301, 302, 298, 101, 102, 394, 395, 396, 397, 239, 398, 329, 330, 331, 332, 399, 400, 401, 402, 403, 253, 254, 255, 256, 303, 304, 305, 306, 404, 405, 406, 407, 730, 731, 732, 733, 734, 735, 736, 737, 738, 739, 740, 741, 742, 743, 744, 745, 746, 747, 748] (by decide +kernel) (by decide +kernel)
set_option maxRecDepth 20000 in
theorem gL_law_X9_moveBy : GoodIn wsL_law (wsV RL 60 RX9 yX9_moveBy wsX9_moveBy) := goodIn_app (goodIn_of _ (by decide +kernel)) ggL_law_X9_moveBy
set_option maxRecDepth 20000 in
theorem ggL_law_X8_home : GoodIn wsL_law wsX8_home := goodIn_r _ [424, 24, 108, 109, 110, 2, 111, 16, 15, 112, 113, 114, 14, 115, 42, 116, 117, 118, 119, 46, 50, 51, 52, 120, 121, 122, 123, 124, 125, 126, 127, 128, 129, 130, 45, 131, 57, 132, 58, 59, 133, 134, 135, 136, 49, 137, 63, 138, 139, 425, 426, 427, 23, 428, 76, 349, 266, 267, 268, 75, 269, 270, 271, 272, 273, 80, 81, 82, 83, 274, 275, 276, 277, 429, 430, 431, 432, 433, 357, 279, 280, 281, 145, 146, 358, 287, 288, 289, 359, 360, 361, 362, 363, 364, 365, 366, 246, 247, 248, 367, 368, 369, 370, 434, 435, 436, 437, 438, 439, 440, 441, 147, 148, 149, 150, 20, 151, 152, 153, 154, 155, 156, 157, 19, 158, 159, 69, 160, 161, 162, 163, 164, 724, 725, 726, 727, 728, 729, 749, 750, 751, 752, 753, 754, 755, 756, 757, 758, 759, 760, 761, 775, 776, 777, 778, 779, 780, 764, 781, 782, 783, 784, 785, 762, 763] (by decide +kernel) (by decide +kernel)
set_option maxRecDepth 20000 in
theorem gL_law_X8_home : GoodIn wsL_law (wsV RL 61 RX8 yX8_home wsX8_home) := goodIn_app (goodIn_of _ (by decide +kernel)) ggL_law_X8_home
set_option maxRecDepth 20000 in
theorem ggL_law_X9_home : GoodIn wsL_law wsX9_home := goodIn_r _ [445, 96, 99, 446, 447, 5, 448, 449, 450, 451, 452, 225, 299, 300, 301, 302, 298, 101, 102, 453, 454, 455, 456, 239, 392, 399, 400, 401, 402, 403, 253, 254, 255, 256, 170, 171, 172, 303, 304, 305, 306, 404, 405, 406, 407, 457, 458, 459, 460, 179, 180, 181, 182, 183, 184, 97, 730, 731, 732, 733, 734, 735, 736, 737, 738, 739, 740, 741, 742, 743, 744, 745, 746, 747, 748] (by decide +kernel) (by decide +kernel)
set_option maxRecDepth 20000 in
theorem gL_law_X9_home : GoodIn wsL_law (wsV RL 64 RX9 yX9_home wsX9_home) := goodIn_app (goodIn_of _ (by decide +kernel)) ggL_law_X9_home
set_option maxRecDepth 20000 in
theorem ggL_law_X8_forget : GoodIn wsL_law wsX8_forget := goodIn_r _ [464, 108, 109, 110, 2, 111, 16, 15, 112, 113, 114, 14, 115, 42, 116, 117, 118, 119, 46, 50, 51, 52, 120, 121, 122, 123, 124, 125, 126, 127, 128, 129, 130, 45, 131, 57, 132, 58, 59, 133, 134, 135, 136, 49, 137, 63, 138, 139, 465, 466, 467, 468, 147, 148, 149, 150, 20, 151, 152, 153, 154, 155, 156, 157, 19, 158, 159, 69, 160, 161, 162, 163, 164, 749, 750, 751, 752, 753, 754, 755, 756, 757, 758, 759, 760, 761, 724, 725, 726, 727, 728, 729, 775, 776, 777, 778, 779, 780, 762, 763] (by decide +kernel) (by decide +kernel)
set_option maxRecDepth 20000 in
theorem gL_law_X8_forget : GoodIn wsL_law (wsV RL 65 RX8 yX8_forget wsX8_forget) := goodIn_app (goodIn_of _ (by decide +kernel)) ggL_law_X8_forget
set_option maxRecDepth 20000 in
theorem ggL_law_X9_forget : GoodIn wsL_law wsX9_forget := goodIn_r _ [472, 96, 179, 180, 181, 5, 182, 183, 184, 97, 730, 731, 732, 733, 734, 735, 736, 737, 738, 739, 740, 741, 742, 743, 744, 745, 746, 747, 748] (by decide +kernel) (by decide +kernel)
set_option maxRecDepth 20000 in
theorem gL_law_X9_forget : GoodIn wsL_law (wsV RL 68 RX9 yX9_forget wsX9_forget) := goodIn_app (goodIn_of _ (by decide +kernel)) ggL_law_X9_forget
set_option maxRecDepth 20000 in
theorem ggL_law_X8_axis : GoodIn wsL_law wsX8_axis := goodIn_r _ [476, 15, 154, 724, 725, 726, 727, 728, 729, 749, 750, 751, 752, 753, 754, 755, 756, 757, 758, 759, 760, 761] (by decide +kernel) (by decide +kernel)
set_option maxRecDepth 20000 in
theorem gL_law_X8_axis : GoodIn wsL_law (wsV RL 69 RX8 yX8_axis wsX8_axis) := goodIn_app (goodIn_of _ (by decide +kernel)) ggL_law_X8_axis
set_option maxRecDepth 20000 in
theorem ggL_law_X9_axis : GoodIn wsL_law wsX9_axis := goodIn_r _ [480, 96, 169, 730, 731, 732, 733, 734, 735, 736, 737, 738, 739, 740, 741, 742, 743, 744, 745, 746, 747, 748] (by decide +kernel) (by decide +kernel)
set_option maxRecDepth 20000 in
theorem gL_law_X9_axis : GoodIn wsL_law (wsV RL 72 RX9 yX9_axis wsX9_axis) := goodIn_app (goodIn_of _ (by decide +kernel)) ggL_law_X9_axis
set_option maxRecDepth 20000 in
theorem ggL_law_X8_moveOf : GoodIn wsL_law wsX8_moveOf := goodIn_r _ [484, 15, 485, 486, 487, 49, 488, 489, 139, 63, 490, 145, 2, 146, 724, 725, 726, 727, 728, 729, 749, 750, 751, 752, 753, 754, 755, 756, 757, 758, 759, 760, 761, 779, 780] (by decide +kernel) (by decide +kernel)
set_option maxRecDepth 20000 in
theorem gL_law_X8_moveOf : GoodIn wsL_law (wsV RL 73 RX8 yX8_moveOf wsX8_moveOf) := goodIn_app (goodIn_of _ (by decide +kernel)) ggL_law_X8_moveOf
set_option maxRecDepth 20000 in
theorem ggL_law_X9_moveOf : GoodIn wsL_law wsX9_moveOf := goodIn_r _ [494, 169, 96, 239, 170, 171, 5, 172, 730, 731, 732, 733, 734, 735, 736, 737, 738, 739, 740, 741, 742, 743, 744, 745, 746, 747, 748] (by decide +kernel) (by decide +kernel)
set_option maxRecDepth 20000 in
theorem gL_law_X9_moveOf : GoodIn wsL_law (wsV RL 76 RX9 yX9_moveOf wsX9_moveOf) := goodIn_app (goodIn_of _ (by decide +kernel)) ggL_law_X9_moveOf
set_option maxRecDepth 20000 in
theorem ggL_law_X8_count : GoodIn wsL_law wsX8_count := goodIn_r _ [498, 15, 20, 28, 154, 244, 145, 2, 146, 724, 725, 726, 727, 728, 729, 749, 750, 751, 752, 753, 754, 755, 756, 757, 758, 759, 760, 761, 775, 776, 777, 778, 779, 780, 762, 763, 765, 766, 767, 768, 769, 770] (by decide +kernel) (by decide +kernel)
set_option maxRecDepth 20000 in
theorem gL_law_X8_count : GoodIn wsL_law (wsV RL 77 RX8 yX8_count wsX8_count) := goodIn_app (goodIn_of _ (by decide +kernel)) ggL_law_X8_count
set_option maxRecDepth 20000 in
theorem ggL_law_X9_count : GoodIn wsL_law wsX9_count := goodIn_r _ [502, 96, 184, 503, 169, 170, 171, 5, 172, 730, 731, 732, 733, 734, 735, 736, 737, 738, 739, 740, 741, 742, 743, 744, 745, 746, 747, 748] (by decide +kernel) (by decide +kernel)
set_option maxRecDepth 20000 in
theorem gL_law_X9_count : GoodIn wsL_law (wsV RL 80 RX9 yX9_count wsX9_count) := goodIn_app (goodIn_of _ (by decide +kernel)) ggL_law_X9_count
set_option maxRecDepth 20000 in
theorem ggL_law_X8_wouldMiss : GoodIn wsL_law wsX8_wouldMiss := goodIn_r _ [507, 24, 108, 109, 110, 2, 111, 16, 15, 112, 113, 114, 14, 115, 42, 116, 117, 118, 119, 46, 50, 51, 52, 120, 121, 122, 123, 124, 125, 126, 127, 128, 129, 130, 45, 131, 57, 132, 58, 59, 133, 134, 135, 136, 49, 137, 63, 138, 139, 337, 338, 339, 23, 340, 76, 341, 342, 272, 343, 344, 345, 346, 347, 348, 349, 145, 146, 266, 267, 268, 75, 269, 270, 271, 273, 80, 81, 82, 83, 274, 275, 276, 277, 350, 351, 352, 353, 354, 355, 356, 357, 279, 280, 281, 358, 287, 288, 289, 359, 360, 361, 362, 363, 364, 365, 366, 246, 247, 248, 367, 368, 369, 370, 371, 320, 321, 322, 323, 291, 292, 293, 324, 372, 373, 374, 375, 376, 377, 378, 379, 724, 725, 726, 727, 728, 729, 749, 750, 751, 752, 753, 754, 755, 756, 757, 758, 759, 760, 761, 775, 776, 777, 778, 779, 780, 764, 781, 782, 783, 784, 785] (by decide +kernel) (by decide +kernel)
set_option maxRecDepth 20000 in
theorem gL_law_X8_wouldMiss : GoodIn wsL_law (wsV RL 81 RX8 yX8_wouldMiss wsX8_wouldMiss) := goodIn_app (goodIn_of _ (by decide +kernel)) ggL_law_X8_wouldMiss
set_option maxRecDepth 20000 in
theorem ggL_law_X9_wouldMiss : GoodIn wsL_law wsX9_wouldMiss := goodIn_r _ [511, 169, 96, 225, 170, 171, 5, 172, 384, 385, 386, 387, 512, 513, 514, 515, 99, 392, 446, 447, 448, 299, 300, 301, 302, 298, 101, 102, 394, 395, 396, 397, 239, 398, 393, 329, 330, 331, 332, 399, 400, 401, 402, 403, 253, 254, 255, 256, 303, 304, 305, 306, 404, 405, 406, 407, 730, 731, 732, 733, 734, 735, 736, 737, 738, 739, 740, 741, 742, 743, 744, 745, 746, 747, 748] (by decide +kernel) (by decide +kernel)
set_option maxRecDepth 20000 in
theorem gL_law_X9_wouldMiss : GoodIn wsL_law (wsV RL 84 RX9 yX9_wouldMiss wsX9_wouldMiss) := goodIn_app (goodIn_of _ (by decide +kernel)) ggL_law_X9_wouldMiss
set_option maxRecDepth 20000 in
theorem ggL_law_X8_safe : GoodIn wsL_law wsX8_safe := goodIn_r _ [519, 24, 15, 520, 521, 522, 23, 523, 76, 341, 342, 272, 343, 524, 433, 271, 273, 344, 345, 346, 347, 348, 349, 145, 2, 146, 266, 267, 268, 75, 269, 270, 80, 81, 82, 83, 274, 275, 276, 277, 350, 351, 352, 364, 365, 525, 246, 247, 45, 248, 133, 57, 58, 59, 353, 354, 355, 356, 358, 287, 288, 289, 526, 527, 528, 529, 724, 725, 726, 727, 728, 729, 764, 749, 750, 751, 752, 753, 754, 755, 756, 757, 758, 759, 760, 761, 781, 782, 783, 784, 785, 775, 776, 777, 778] (by decide +kernel) (by decide +kernel)
set_option maxRecDepth 20000 in
theorem gL_law_X8_safe : GoodIn wsL_law (wsV RL 85 RX8 yX8_safe wsX8_safe) := goodIn_app (goodIn_of _ (by decide +kernel)) ggL_law_X8_safe
set_option maxRecDepth 20000 in
theorem ggL_law_X9_safe : GoodIn wsL_law wsX9_safe := goodIn_r _ [533, 169, 225, 96, 239, 170, 171, 5, 172, 384, 385, 386, 387, 512, 513, 514, 515, 99, 392, 446, 447, 448, 299, 300, 301, 302, 298, 101, 102, 394, 395, 396, 397, 398, 393, 329, 330, 331, 332, 399, 400, 401, 402, 403, 253, 254, 255, 256, 303, 304, 305, 306, 404, 405, 406, 407, 730, 731, 732, 733, 734, 735, 736, 737, 738, 739, 740, 741, 742, 743, 744, 745, 746, 747, 748] (by decide +kernel) (by decide +kernel)
set_option maxRecDepth 20000 in
theorem gL_law_X9_safe : GoodIn wsL_law (wsV RL 88 RX9 yX9_safe wsX9_safe) := goodIn_app (goodIn_of _ (by decide +kernel)) ggL_law_X9_safe
set_option maxRecDepth 20000 in
theorem ggL_law_X8_firstMiss : GoodIn wsL_law wsX8_firstMiss := goodIn_r _ [537, 24, 15, 538, 539, 540, 23, 541, 76, 341, 342, 272, 343, 524, 344, 345, 346, 347, 348, 349, 145, 2, 146, 266, 267, 268, 75, 269, 270, 271, 273, 80, 81, 82, 83, 274, 275, 276, 277, 350, 351, 352, 353, 354, 355, 356, 358, 287, 288, 289, 364, 365, 525, 246, 247, 45, 248, 133, 57, 58, 59, 724, 725, 726, 727, 728, 729, 764, 749, 750, 751, 752, 753, 754, 755, 756, 757, 758, 759, 760, 761, 781, 782, 783, 784, 785, 775, 776, 777, 778] (by decide +kernel) (by decide +kernel)
set_option maxRecDepth 20000 in
theorem gL_law_X8_firstMiss : GoodIn wsL_law (wsV RL 89 RX8 yX8_firstMiss wsX8_firstMiss) := goodIn_app (goodIn_of _ (by decide +kernel)) ggL_law_X8_firstMiss
set_option maxRecDepth 20000 in
theorem ggL_law_X9_firstMiss : GoodIn wsL_law wsX9_firstMiss := goodIn_r _ [545, 169, 225, 96, 239, 398, 170, 171, 5, 172, 384, 385, 386, 387, 512, 513, 514, 515, 99, 392, 446, 447, 448, 299, 300, 301, 302, 298, 101, 102, 394, 395, 396, 397, 393, 329, 330, 331, 332, 399, 400, 401, 402, 403, 253, 254, 255, 256, 303, 304, 305, 306, 404, 405, 406, 407, 730, 731, 732, 733, 734, 735, 736, 737, 738, 739, 740, 741, 742, 743, 744, 745, 746, 747, 748] (by decide +kernel) (by decide +kernel)
set_option maxRecDepth 20000 in
theorem gL_law_X9_firstMiss : GoodIn wsL_law (wsV RL 92 RX9 yX9_firstMiss wsX9_firstMiss) := goodIn_app (goodIn_of _ (by decide +kernel)) ggL_law_X9_firstMiss
set_option maxRecDepth 20000 in
theorem ggL_law_X8_speedBits : GoodIn wsL_law wsX8_speedBits := goodIn_r _ [549, 15, 550, 551, 552, 49, 553, 489, 139, 490, 554, 342, 272, 343, 555, 486, 487, 488, 63, 145, 2, 146, 556, 557, 558, 559, 560, 724, 725, 726, 727, 728, 729, 749, 750, 751, 752, 753, 754, 755, 756, 757, 758, 759, 760, 761, 779, 780] (by decide +kernel) (by decide +kernel)
set_option maxRecDepth 20000 in
theorem gL_law_X8_speedBits : GoodIn wsL_law (wsV RL 93 RX8 yX8_speedBits wsX8_speedBits) := goodIn_app (goodIn_of _ (by decide +kernel)) ggL_law_X8_speedBits
set_option maxRecDepth 20000 in
theorem ggL_law_X9_speedBits : GoodIn wsL_law wsX9_speedBits := goodIn_r _ [564, 169, 96, 239, 565, 566, 567, 568, 569, 570, 571, 572, 573, 574, 575, 576, 730, 731, 732, 733, 734, 735, 736, 737, 738, 739, 740, 741, 742, 743, 744, 745, 746, 747, 748] (by decide +kernel) (by decide +kernel)
set_option maxRecDepth 20000 in
theorem gL_law_X9_speedBits : GoodIn wsL_law (wsV RL 96 RX9 yX9_speedBits wsX9_speedBits) := goodIn_app (goodIn_of _ (by decide +kernel)) ggL_law_X9_speedBits
set_option maxRecDepth 20000 in
theorem ggL_law_X8_undo : GoodIn wsL_law wsX8_undo := goodIn_r _ [580, 20, 15, 581, 582, 583, 19, 584, 159, 585, 69, 164, 113, 114, 14, 115, 42, 116, 117, 118, 119, 46, 50, 51, 52, 120, 121, 122, 123, 124, 125, 126, 127, 128, 129, 130, 45, 131, 57, 132, 58, 59, 133, 134, 135, 136, 49, 137, 63, 138, 139, 724, 725, 726, 727, 728, 729, 762, 763, 749, 750, 751, 752, 753, 754, 755, 756, 757, 758, 759, 760, 761, 775, 776, 777, 778, 779, 780] (by decide +kernel) (by decide +kernel)
set_option maxRecDepth 20000 in
theorem gL_law_X8_undo : GoodIn wsL_law (wsV RL 97 RX8 yX8_undo wsX8_undo) := goodIn_app (goodIn_of _ (by decide +kernel)) ggL_law_X8_undo
set_option maxRecDepth 20000 in
theorem ggL_law_X9_undo : GoodIn wsL_law wsX9_undo := goodIn_r _ [589, 184, 225, 96, 97, 730, 731, 732, 733, 734, 735, 736, 737, 738, 739, 740, 741, 742, 743, 744, 745, 746, 747, 748] (by decide +kernel) (by decide +kernel)
set_option maxRecDepth 20000 in
theorem gL_law_X9_undo : GoodIn wsL_law (wsV RL 100 RX9 yX9_undo wsX9_undo) := goodIn_app (goodIn_of _ (by decide +kernel)) ggL_law_X9_undo
set_option maxRecDepth 20000 in
theorem ggL_law_X8_type : GoodIn wsL_law wsX8_type := goodIn_r _ [593, 28, 594, 595, 596, 27, 597, 598, 599, 600, 88, 145, 2, 146, 724, 725, 726, 727, 728, 729, 765, 766, 767, 768, 769, 770] (by decide +kernel) (by decide +kernel)
set_option maxRecDepth 20000 in
theorem gL_law_X8_type : GoodIn wsL_law (wsV RL 101 RX8 yX8_type wsX8_type) := goodIn_app (goodIn_of _ (by decide +kernel)) ggL_law_X8_type
set_option maxRecDepth 20000 in
theorem ggL_law_X9_type : GoodIn wsL_law wsX9_type := goodIn_r _ [604, 169, 503, 211, 100, 170, 171, 5, 172, 730, 731, 732, 733, 734, 735, 736, 737, 738, 739, 740, 741, 742, 743, 744, 745, 746, 747, 748] (by decide +kernel) (by decide +kernel)
set_option maxRecDepth 20000 in
theorem gL_law_X9_type : GoodIn wsL_law (wsV RL 104 RX9 yX9_type wsX9_type) := goodIn_app (goodIn_of _ (by decide +kernel)) ggL_law_X9_type
set_option maxRecDepth 20000 in
theorem ggL_law_X8_clearText : GoodIn wsL_law wsX8_clearText := goodIn_r _ [608, 28, 609, 610, 611, 27, 612, 599, 724, 725, 726, 727, 728, 729, 765, 766, 767, 768, 769, 770] (by decide +kernel) (by decide +kernel)
set_option maxRecDepth 20000 in
theorem gL_law_X8_clearText : GoodIn wsL_law (wsV RL 105 RX8 yX8_clearText wsX8_clearText) := goodIn_app (goodIn_of _ (by decide +kernel)) ggL_law_X8_clearText
set_option maxRecDepth 20000 in
theorem ggL_law_X9_clearText : GoodIn wsL_law wsX9_clearText := goodIn_r _ [616, 503, 730, 731, 732, 733, 734, 735, 736, 737, 738, 739, 740, 741, 742, 743, 744, 745, 746, 747, 748] (by decide +kernel) (by decide +kernel)
set_option maxRecDepth 20000 in
theorem gL_law_X9_clearText : GoodIn wsL_law (wsV RL 108 RX9 yX9_clearText wsX9_clearText) := goodIn_app (goodIn_of _ (by decide +kernel)) ggL_law_X9_clearText
set_option maxRecDepth 20000 in
theorem ggL_law_X8_fault : GoodIn wsL_law wsX8_fault := goodIn_r _ [620, 154, 32, 28, 24, 261, 244, 145, 2, 146, 108, 109, 110, 111, 16, 15, 112, 113, 114, 14, 115, 42, 116, 117, 118, 119, 46, 50, 51, 52, 120, 121, 122, 123, 124, 125, 126, 127, 128, 129, 130, 45, 131, 57, 132, 58, 59, 133, 134, 135, 136, 49, 137, 63, 138, 139, 621, 622, 623, 31, 624, 625, 626, 627, 628, 629, 630, 27, 631, 632, 633, 634, 635, 636, 599, 637, 638, 639, 640, 641, 642, 643, 644, 645, 88, 646, 647, 648, 649, 650, 651, 652, 653, 654, 655, 656, 657, 658, 659, 660, 661, 662, 663, 664, 665, 666, 667, 668, 338, 339, 23, 340, 76, 341, 342, 272, 343, 344, 345, 346, 347, 348, 349, 266, 267, 268, 75, 269, 270, 271, 273, 80, 81, 82, 83, 274, 275, 276, 277, 350, 351, 352, 353, 354, 355, 356, 357, 279, 280, 281, 358, 287, 288, 289, 359, 360, 361, 362, 363, 364, 365, 366, 246, 247, 248, 367, 368, 369, 370, 371, 320, 321, 322, 323, 291, 292, 293, 324, 372, 373, 374, 375, 376, 377, 378, 379, 669, 413, 414, 415, 416, 670, 141, 142, 143, 144, 671, 426, 427, 428, 429, 430, 431, 432, 433, 434, 435, 436, 437, 438, 439, 440, 441, 672, 466, 467, 468, 673, 674, 675, 676, 677, 152, 153, 724, 725, 726, 727, 728, 729, 771, 772, 773, 774, 749, 750, 751, 752, 753, 754, 755, 756, 757, 758, 759, 760, 761, 775, 776, 777, 778, 779, 780, 765, 766, 767, 768, 769, 770, 764, 781, 782, 783, 784, 785] (by decide +kernel) (by decide +kernel)
set_option maxRecDepth 20000 in
theorem gL_law_X8_fault : GoodIn wsL_law (wsV RL 109 RX8 yX8_fault wsX8_fault) := goodIn_app (goodIn_of _ (by decide +kernel)) ggL_law_X8_fault
set_option maxRecDepth 20000 in
theorem ggL_law_X9_fault : GoodIn wsL_law wsX9_fault := goodIn_r _ [681, 169, 96, 98, 239, 682, 170, 171, 5, 172, 446, 447, 448, 683, 684, 685, 686, 183, 687, 688, 503, 689, 690, 691, 692, 100, 693, 694, 695, 696, 697, 698, 699, 700, 701, 702, 703, 704, 705, 103, 706, 707, 708, 709, 710, 381, 382, 383, 225, 384, 385, 386, 387, 388, 389, 390, 391, 392, 393, 179, 180, 181, 182, 184, 97, 299, 300, 301, 302, 298, 101, 102, 394, 395, 396, 397, 398, 329, 330, 331, 332, 399, 400, 401, 402, 403, 253, 254, 255, 256, 303, 304, 305, 306, 404, 405, 406, 407, 711, 418, 419, 420, 712, 443, 444, 445, 99, 449, 450, 451, 452, 453, 454, 455, 456, 457, 458, 459, 460, 713, 166, 167, 168, 173, 174, 175, 176, 177, 178, 714, 470, 471, 472, 730, 731, 732, 733, 734, 735, 736, 737, 738, 739, 740, 741, 742, 743, 744, 745, 746, 747, 748] (by decide +kernel) (by decide +kernel)
set_option maxRecDepth 20000 in
theorem gL_law_X9_fault : GoodIn wsL_law (wsV RL 112 RX9 yX9_fault wsX9_fault) := goodIn_app (goodIn_of _ (by decide +kernel)) ggL_law_X9_fault
set_option maxRecDepth 20000 in
theorem ggL_law_X8_play : GoodIn wsL_law wsX8_play := goodIn_r _ [718, 32, 28, 24, 719, 108, 109, 110, 2, 111, 16, 15, 112, 113, 114, 14, 115, 42, 116, 117, 118, 119, 46, 50, 51, 52, 120, 121, 122, 123, 124, 125, 126, 127, 128, 129, 130, 45, 131, 57, 132, 58, 59, 133, 134, 135, 136, 49, 137, 63, 138, 139, 621, 622, 623, 31, 624, 625, 626, 627, 628, 629, 630, 27, 631, 632, 633, 634, 635, 636, 599, 637, 638, 639, 640, 641, 642, 643, 644, 645, 88, 646, 647, 648, 649, 650, 651, 652, 653, 654, 655, 656, 657, 658, 145, 146, 659, 660, 661, 662, 663, 664, 665, 666, 667, 668, 338, 339, 23, 340, 76, 341, 342, 272, 343, 344, 345, 346, 347, 348, 349, 266, 267, 268, 75, 269, 270, 271, 273, 80, 81, 82, 83, 274, 275, 276, 277, 350, 351, 352, 353, 354, 355, 356, 357, 279, 280, 281, 358, 287, 288, 289, 359, 360, 361, 362, 363, 364, 365, 366, 246, 247, 248, 367, 368, 369, 370, 371, 320, 321, 322, 323, 291, 292, 293, 324, 372, 373, 374, 375, 376, 377, 378, 379, 669, 413, 414, 415, 416, 670, 141, 142, 143, 144, 671, 426, 427, 428, 429, 430, 431, 432, 433, 434, 435, 436, 437, 438, 439, 440, 441, 672, 466, 467, 468, 673, 674, 675, 676, 677, 152, 153, 154, 147, 148, 149, 150, 20, 151, 155, 156, 157, 19, 158, 159, 69, 160, 161, 162, 163, 164, 724, 725, 726, 727, 728, 729, 771, 772, 773, 774, 749, 750, 751, 752, 753, 754, 755, 756, 757, 758, 759, 760, 761, 775, 776, 777, 778, 779, 780, 765, 766, 767, 768, 769, 770, 764, 781, 782, 783, 784, 785, 762, 763] (by decide +kernel) (by decide +kernel)
set_option maxRecDepth 20000 in
theorem gL_law_X8_play : GoodIn wsL_law (wsV RL 113 RX8 yX8_play wsX8_play) := goodIn_app (goodIn_of _ (by decide +kernel)) ggL_law_X8_play
set_option maxRecDepth 20000 in
theorem ggL_law_X9_play : GoodIn wsL_law wsX9_play := goodIn_r _ [723, 96, 98, 239, 225, 688, 446, 447, 5, 448, 683, 684, 685, 686, 183, 687, 503, 169, 682, 689, 690, 691, 692, 100, 693, 694, 695, 696, 697, 698, 699, 700, 701, 170, 171, 172, 702, 703, 704, 705, 103, 706, 707, 708, 709, 710, 381, 382, 383, 384, 385, 386, 387, 388, 389, 390, 391, 392, 393, 179, 180, 181, 182, 184, 97, 299, 300, 301, 302, 298, 101, 102, 394, 395, 396, 397, 398, 329, 330, 331, 332, 399, 400, 401, 402, 403, 253, 254, 255, 256, 303, 304, 305, 306, 404, 405, 406, 407, 711, 418, 419, 420, 712, 443, 444, 445, 99, 449, 450, 451, 452, 453, 454, 455, 456, 457, 458, 459, 460, 713, 166, 167, 168, 173, 174, 175, 176, 177, 178, 714, 470, 471, 472, 730, 731, 732, 733, 734, 735, 736, 737, 738, 739, 740, 741, 742, 743, 744, 745, 746, 747, 748] (by decide +kernel) (by decide +kernel)
set_option maxRecDepth 20000 in
theorem gL_law_X9_play : GoodIn wsL_law (wsV RL 116 RX9 yX9_play wsX9_play) := goodIn_app (goodIn_of _ (by decide +kernel)) ggL_law_X9_play
theorem dL_law_0 : decode cL_law 0 = .ok (.new 7, 3) := by decide +kernel
theorem dL_law_3 : decode cL_law 3 = .ok (.dup, 1) := by decide +kernel
theorem dL_law_4 : decode cL_law 4 = .ok (.invokespecial 9, 3) := by decide +kernel
theorem dL_law_7 : decode cL_law 7 = .ok (.astore_n 1, 1) := by decide +kernel
theorem dL_law_8 : decode cL_law 8 = .ok (.new 10, 3) := by decide +kernel
theorem dL_law_11 : decode cL_law 11 = .ok (.dup, 1) := by decide +kernel
theorem dL_law_12 : decode cL_law 12 = .ok (.invokespecial 12, 3) := by decide +kernel
theorem dL_law_15 : decode cL_law 15 = .ok (.astore_n 2, 1) := by decide +kernel
theorem dL_law_16 : decode cL_law 16 = .ok (.iconst 0, 1) := by decide +kernel
theorem dL_law_17 : decode cL_law 17 = .ok (.istore_n 3, 1) := by decide +kernel
theorem dL_law_18 : decode cL_law 18 = .ok (.iload_n 3, 1) := by decide +kernel
theorem dL_law_19 : decode cL_law 19 = .ok (.aload_n 0, 1) := by decide +kernel
theorem dL_law_20 : decode cL_law 20 = .ok (.arraylength, 1) := by decide +kernel
theorem dL_law_21 : decode cL_law 21 = .ok (.iconst 4, 1) := by decide +kernel
theorem dL_law_22 : decode cL_law 22 = .ok (.isub, 1) := by decide +kernel
theorem dL_law_23 : decode cL_law 23 = .ok (.if_icmp .gt 716, 3) := by decide +kernel
theorem dL_law_26 : decode cL_law 26 = .ok (.aload_n 0, 1) := by decide +kernel
theorem dL_law_27 : decode cL_law 27 = .ok (.iload_n 3, 1) := by decide +kernel
theorem dL_law_28 : decode cL_law 28 = .ok (.iaload, 1) := by decide +kernel
theorem dL_law_29 : decode cL_law 29 = .ok (.bipush 31, 2) := by decide +kernel
theorem dL_law_31 : decode cL_law 31 = .ok (.iand, 1) := by decide +kernel
theorem dL_law_32 : decode cL_law 32 = .ok (.tableswitch 701 0 24 #[116, 149, 182, 225, 248, 281, 304, 337, 350, 373, 396, 419, 432, 445, 468, 501, 524, 547, 570, 593, 616, 629, 652, 665, 688], 116) := by decide +kernel
theorem dL_law_148 : decode cL_law 148 = .ok (.aload_n 1, 1) := by decide +kernel
theorem dL_law_149 : decode cL_law 149 = .ok (.aload_n 0, 1) := by decide +kernel
theorem dL_law_150 : decode cL_law 150 = .ok (.iload_n 3, 1) := by decide +kernel
theorem dL_law_151 : decode cL_law 151 = .ok (.iconst 1, 1) := by decide +kernel
theorem dL_law_152 : decode cL_law 152 = .ok (.iadd, 1) := by decide +kernel
theorem dL_law_153 : decode cL_law 153 = .ok (.iaload, 1) := by decide +kernel
theorem dL_law_154 : decode cL_law 154 = .ok (.aload_n 0, 1) := by decide +kernel
theorem dL_law_155 : decode cL_law 155 = .ok (.iload_n 3, 1) := by decide +kernel
theorem dL_law_156 : decode cL_law 156 = .ok (.iconst 2, 1) := by decide +kernel
theorem dL_law_157 : decode cL_law 157 = .ok (.iadd, 1) := by decide +kernel
theorem dL_law_158 : decode cL_law 158 = .ok (.iaload, 1) := by decide +kernel
theorem dL_law_159 : decode cL_law 159 = .ok (.invokevirtual 13, 3) := by decide +kernel
theorem dL_law_162 : decode cL_law 162 = .ok (.aload_n 2, 1) := by decide +kernel
theorem dL_law_163 : decode cL_law 163 = .ok (.aload_n 0, 1) := by decide +kernel
theorem dL_law_164 : decode cL_law 164 = .ok (.iload_n 3, 1) := by decide +kernel
theorem dL_law_165 : decode cL_law 165 = .ok (.iconst 1, 1) := by decide +kernel
theorem dL_law_166 : decode cL_law 166 = .ok (.iadd, 1) := by decide +kernel
theorem dL_law_167 : decode cL_law 167 = .ok (.iaload, 1) := by decide +kernel
theorem dL_law_168 : decode cL_law 168 = .ok (.aload_n 0, 1) := by decide +kernel
theorem dL_law_169 : decode cL_law 169 = .ok (.iload_n 3, 1) := by decide +kernel
theorem dL_law_170 : decode cL_law 170 = .ok (.iconst 2, 1) := by decide +kernel
theorem dL_law_171 : decode cL_law 171 = .ok (.iadd, 1) := by decide +kernel
theorem dL_law_172 : decode cL_law 172 = .ok (.iaload, 1) := by decide +kernel
theorem dL_law_173 : decode cL_law 173 = .ok (.invokevirtual 17, 3) := by decide +kernel
theorem dL_law_176 : decode cL_law 176 = .ok (.if_icmp .eq 557, 3) := by decide +kernel
theorem dL_law_179 : decode cL_law 179 = .ok (.iconst 0, 1) := by decide +kernel
theorem dL_law_180 : decode cL_law 180 = .ok (.ireturn, 1) := by decide +kernel
theorem dL_law_181 : decode cL_law 181 = .ok (.aload_n 1, 1) := by decide +kernel
theorem dL_law_182 : decode cL_law 182 = .ok (.aload_n 0, 1) := by decide +kernel
theorem dL_law_183 : decode cL_law 183 = .ok (.iload_n 3, 1) := by decide +kernel
theorem dL_law_184 : decode cL_law 184 = .ok (.iconst 1, 1) := by decide +kernel
theorem dL_law_185 : decode cL_law 185 = .ok (.iadd, 1) := by decide +kernel
theorem dL_law_186 : decode cL_law 186 = .ok (.iaload, 1) := by decide +kernel
theorem dL_law_187 : decode cL_law 187 = .ok (.aload_n 0, 1) := by decide +kernel
theorem dL_law_188 : decode cL_law 188 = .ok (.iload_n 3, 1) := by decide +kernel
theorem dL_law_189 : decode cL_law 189 = .ok (.iconst 2, 1) := by decide +kernel
theorem dL_law_190 : decode cL_law 190 = .ok (.iadd, 1) := by decide +kernel
theorem dL_law_191 : decode cL_law 191 = .ok (.iaload, 1) := by decide +kernel
theorem dL_law_192 : decode cL_law 192 = .ok (.invokevirtual 18, 3) := by decide +kernel
theorem dL_law_195 : decode cL_law 195 = .ok (.aload_n 2, 1) := by decide +kernel
theorem dL_law_196 : decode cL_law 196 = .ok (.aload_n 0, 1) := by decide +kernel
theorem dL_law_197 : decode cL_law 197 = .ok (.iload_n 3, 1) := by decide +kernel
theorem dL_law_198 : decode cL_law 198 = .ok (.iconst 1, 1) := by decide +kernel
theorem dL_law_199 : decode cL_law 199 = .ok (.iadd, 1) := by decide +kernel
theorem dL_law_200 : decode cL_law 200 = .ok (.iaload, 1) := by decide +kernel
theorem dL_law_201 : decode cL_law 201 = .ok (.aload_n 0, 1) := by decide +kernel
theorem dL_law_202 : decode cL_law 202 = .ok (.iload_n 3, 1) := by decide +kernel
theorem dL_law_203 : decode cL_law 203 = .ok (.iconst 2, 1) := by decide +kernel
theorem dL_law_204 : decode cL_law 204 = .ok (.iadd, 1) := by decide +kernel
theorem dL_law_205 : decode cL_law 205 = .ok (.iaload, 1) := by decide +kernel
theorem dL_law_206 : decode cL_law 206 = .ok (.invokevirtual 21, 3) := by decide +kernel
theorem dL_law_209 : decode cL_law 209 = .ok (.if_icmp .eq 524, 3) := by decide +kernel
theorem dL_law_212 : decode cL_law 212 = .ok (.iconst 0, 1) := by decide +kernel
theorem dL_law_213 : decode cL_law 213 = .ok (.ireturn, 1) := by decide +kernel
theorem dL_law_214 : decode cL_law 214 = .ok (.aload_n 1, 1) := by decide +kernel
theorem dL_law_215 : decode cL_law 215 = .ok (.aload_n 0, 1) := by decide +kernel
theorem dL_law_216 : decode cL_law 216 = .ok (.iload_n 3, 1) := by decide +kernel
theorem dL_law_217 : decode cL_law 217 = .ok (.iconst 1, 1) := by decide +kernel
theorem dL_law_218 : decode cL_law 218 = .ok (.iadd, 1) := by decide +kernel
theorem dL_law_219 : decode cL_law 219 = .ok (.iaload, 1) := by decide +kernel
theorem dL_law_220 : decode cL_law 220 = .ok (.aload_n 0, 1) := by decide +kernel
theorem dL_law_221 : decode cL_law 221 = .ok (.iload_n 3, 1) := by decide +kernel
theorem dL_law_222 : decode cL_law 222 = .ok (.iconst 2, 1) := by decide +kernel
theorem dL_law_223 : decode cL_law 223 = .ok (.iadd, 1) := by decide +kernel
theorem dL_law_224 : decode cL_law 224 = .ok (.iaload, 1) := by decide +kernel
theorem dL_law_225 : decode cL_law 225 = .ok (.aload_n 0, 1) := by decide +kernel
theorem dL_law_226 : decode cL_law 226 = .ok (.iload_n 3, 1) := by decide +kernel
theorem dL_law_227 : decode cL_law 227 = .ok (.iconst 3, 1) := by decide +kernel
theorem dL_law_228 : decode cL_law 228 = .ok (.iadd, 1) := by decide +kernel
theorem dL_law_229 : decode cL_law 229 = .ok (.iaload, 1) := by decide +kernel
theorem dL_law_230 : decode cL_law 230 = .ok (.invokevirtual 22, 3) := by decide +kernel
theorem dL_law_233 : decode cL_law 233 = .ok (.aload_n 2, 1) := by decide +kernel
theorem dL_law_234 : decode cL_law 234 = .ok (.aload_n 0, 1) := by decide +kernel
theorem dL_law_235 : decode cL_law 235 = .ok (.iload_n 3, 1) := by decide +kernel
theorem dL_law_236 : decode cL_law 236 = .ok (.iconst 1, 1) := by decide +kernel
theorem dL_law_237 : decode cL_law 237 = .ok (.iadd, 1) := by decide +kernel
theorem dL_law_238 : decode cL_law 238 = .ok (.iaload, 1) := by decide +kernel
theorem dL_law_239 : decode cL_law 239 = .ok (.aload_n 0, 1) := by decide +kernel
theorem dL_law_240 : decode cL_law 240 = .ok (.iload_n 3, 1) := by decide +kernel
theorem dL_law_241 : decode cL_law 241 = .ok (.iconst 2, 1) := by decide +kernel
theorem dL_law_242 : decode cL_law 242 = .ok (.iadd, 1) := by decide +kernel
theorem dL_law_243 : decode cL_law 243 = .ok (.iaload, 1) := by decide +kernel
theorem dL_law_244 : decode cL_law 244 = .ok (.aload_n 0, 1) := by decide +kernel
theorem dL_law_245 : decode cL_law 245 = .ok (.iload_n 3, 1) := by decide +kernel
theorem dL_law_246 : decode cL_law 246 = .ok (.iconst 3, 1) := by decide +kernel
theorem dL_law_247 : decode cL_law 247 = .ok (.iadd, 1) := by decide +kernel
theorem dL_law_248 : decode cL_law 248 = .ok (.iaload, 1) := by decide +kernel
theorem dL_law_249 : decode cL_law 249 = .ok (.invokevirtual 26, 3) := by decide +kernel
theorem dL_law_252 : decode cL_law 252 = .ok (.if_icmp .eq 481, 3) := by decide +kernel
theorem dL_law_255 : decode cL_law 255 = .ok (.iconst 0, 1) := by decide +kernel
theorem dL_law_256 : decode cL_law 256 = .ok (.ireturn, 1) := by decide +kernel
theorem dL_law_257 : decode cL_law 257 = .ok (.aload_n 1, 1) := by decide +kernel
theorem dL_law_258 : decode cL_law 258 = .ok (.aload_n 0, 1) := by decide +kernel
theorem dL_law_259 : decode cL_law 259 = .ok (.iload_n 3, 1) := by decide +kernel
theorem dL_law_260 : decode cL_law 260 = .ok (.iconst 1, 1) := by decide +kernel
theorem dL_law_261 : decode cL_law 261 = .ok (.iadd, 1) := by decide +kernel
theorem dL_law_262 : decode cL_law 262 = .ok (.iaload, 1) := by decide +kernel
theorem dL_law_263 : decode cL_law 263 = .ok (.invokevirtual 27, 3) := by decide +kernel
theorem dL_law_266 : decode cL_law 266 = .ok (.aload_n 2, 1) := by decide +kernel
theorem dL_law_267 : decode cL_law 267 = .ok (.aload_n 0, 1) := by decide +kernel
theorem dL_law_268 : decode cL_law 268 = .ok (.iload_n 3, 1) := by decide +kernel
theorem dL_law_269 : decode cL_law 269 = .ok (.iconst 1, 1) := by decide +kernel
theorem dL_law_270 : decode cL_law 270 = .ok (.iadd, 1) := by decide +kernel
theorem dL_law_271 : decode cL_law 271 = .ok (.iaload, 1) := by decide +kernel
theorem dL_law_272 : decode cL_law 272 = .ok (.invokevirtual 31, 3) := by decide +kernel
theorem dL_law_275 : decode cL_law 275 = .ok (.if_icmp .eq 458, 3) := by decide +kernel
theorem dL_law_278 : decode cL_law 278 = .ok (.iconst 0, 1) := by decide +kernel
theorem dL_law_279 : decode cL_law 279 = .ok (.ireturn, 1) := by decide +kernel
theorem dL_law_280 : decode cL_law 280 = .ok (.aload_n 1, 1) := by decide +kernel
theorem dL_law_281 : decode cL_law 281 = .ok (.aload_n 0, 1) := by decide +kernel
theorem dL_law_282 : decode cL_law 282 = .ok (.iload_n 3, 1) := by decide +kernel
theorem dL_law_283 : decode cL_law 283 = .ok (.iconst 1, 1) := by decide +kernel
theorem dL_law_284 : decode cL_law 284 = .ok (.iadd, 1) := by decide +kernel
theorem dL_law_285 : decode cL_law 285 = .ok (.iaload, 1) := by decide +kernel
theorem dL_law_286 : decode cL_law 286 = .ok (.aload_n 0, 1) := by decide +kernel
theorem dL_law_287 : decode cL_law 287 = .ok (.iload_n 3, 1) := by decide +kernel
theorem dL_law_288 : decode cL_law 288 = .ok (.iconst 2, 1) := by decide +kernel
theorem dL_law_289 : decode cL_law 289 = .ok (.iadd, 1) := by decide +kernel
theorem dL_law_290 : decode cL_law 290 = .ok (.iaload, 1) := by decide +kernel
theorem dL_law_291 : decode cL_law 291 = .ok (.invokevirtual 32, 3) := by decide +kernel
theorem dL_law_294 : decode cL_law 294 = .ok (.aload_n 2, 1) := by decide +kernel
theorem dL_law_295 : decode cL_law 295 = .ok (.aload_n 0, 1) := by decide +kernel
theorem dL_law_296 : decode cL_law 296 = .ok (.iload_n 3, 1) := by decide +kernel
theorem dL_law_297 : decode cL_law 297 = .ok (.iconst 1, 1) := by decide +kernel
theorem dL_law_298 : decode cL_law 298 = .ok (.iadd, 1) := by decide +kernel
theorem dL_law_299 : decode cL_law 299 = .ok (.iaload, 1) := by decide +kernel
theorem dL_law_300 : decode cL_law 300 = .ok (.aload_n 0, 1) := by decide +kernel
theorem dL_law_301 : decode cL_law 301 = .ok (.iload_n 3, 1) := by decide +kernel
theorem dL_law_302 : decode cL_law 302 = .ok (.iconst 2, 1) := by decide +kernel
theorem dL_law_303 : decode cL_law 303 = .ok (.iadd, 1) := by decide +kernel
theorem dL_law_304 : decode cL_law 304 = .ok (.iaload, 1) := by decide +kernel
theorem dL_law_305 : decode cL_law 305 = .ok (.invokevirtual 35, 3) := by decide +kernel
theorem dL_law_308 : decode cL_law 308 = .ok (.if_icmp .eq 425, 3) := by decide +kernel
theorem dL_law_311 : decode cL_law 311 = .ok (.iconst 0, 1) := by decide +kernel
theorem dL_law_312 : decode cL_law 312 = .ok (.ireturn, 1) := by decide +kernel
theorem dL_law_313 : decode cL_law 313 = .ok (.aload_n 1, 1) := by decide +kernel
theorem dL_law_314 : decode cL_law 314 = .ok (.aload_n 0, 1) := by decide +kernel
theorem dL_law_315 : decode cL_law 315 = .ok (.iload_n 3, 1) := by decide +kernel
theorem dL_law_316 : decode cL_law 316 = .ok (.iconst 1, 1) := by decide +kernel
theorem dL_law_317 : decode cL_law 317 = .ok (.iadd, 1) := by decide +kernel
theorem dL_law_318 : decode cL_law 318 = .ok (.iaload, 1) := by decide +kernel
theorem dL_law_319 : decode cL_law 319 = .ok (.invokevirtual 36, 3) := by decide +kernel
theorem dL_law_322 : decode cL_law 322 = .ok (.aload_n 2, 1) := by decide +kernel
theorem dL_law_323 : decode cL_law 323 = .ok (.aload_n 0, 1) := by decide +kernel
theorem dL_law_324 : decode cL_law 324 = .ok (.iload_n 3, 1) := by decide +kernel
theorem dL_law_325 : decode cL_law 325 = .ok (.iconst 1, 1) := by decide +kernel
theorem dL_law_326 : decode cL_law 326 = .ok (.iadd, 1) := by decide +kernel
theorem dL_law_327 : decode cL_law 327 = .ok (.iaload, 1) := by decide +kernel
theorem dL_law_328 : decode cL_law 328 = .ok (.invokevirtual 39, 3) := by decide +kernel
theorem dL_law_331 : decode cL_law 331 = .ok (.if_icmp .eq 402, 3) := by decide +kernel
theorem dL_law_334 : decode cL_law 334 = .ok (.iconst 0, 1) := by decide +kernel
theorem dL_law_335 : decode cL_law 335 = .ok (.ireturn, 1) := by decide +kernel
theorem dL_law_336 : decode cL_law 336 = .ok (.aload_n 1, 1) := by decide +kernel
theorem dL_law_337 : decode cL_law 337 = .ok (.aload_n 0, 1) := by decide +kernel
theorem dL_law_338 : decode cL_law 338 = .ok (.iload_n 3, 1) := by decide +kernel
theorem dL_law_339 : decode cL_law 339 = .ok (.iconst 1, 1) := by decide +kernel
theorem dL_law_340 : decode cL_law 340 = .ok (.iadd, 1) := by decide +kernel
theorem dL_law_341 : decode cL_law 341 = .ok (.iaload, 1) := by decide +kernel
theorem dL_law_342 : decode cL_law 342 = .ok (.aload_n 0, 1) := by decide +kernel
theorem dL_law_343 : decode cL_law 343 = .ok (.iload_n 3, 1) := by decide +kernel
theorem dL_law_344 : decode cL_law 344 = .ok (.iconst 2, 1) := by decide +kernel
theorem dL_law_345 : decode cL_law 345 = .ok (.iadd, 1) := by decide +kernel
theorem dL_law_346 : decode cL_law 346 = .ok (.iaload, 1) := by decide +kernel
theorem dL_law_347 : decode cL_law 347 = .ok (.invokevirtual 40, 3) := by decide +kernel
theorem dL_law_350 : decode cL_law 350 = .ok (.aload_n 2, 1) := by decide +kernel
theorem dL_law_351 : decode cL_law 351 = .ok (.aload_n 0, 1) := by decide +kernel
theorem dL_law_352 : decode cL_law 352 = .ok (.iload_n 3, 1) := by decide +kernel
theorem dL_law_353 : decode cL_law 353 = .ok (.iconst 1, 1) := by decide +kernel
theorem dL_law_354 : decode cL_law 354 = .ok (.iadd, 1) := by decide +kernel
theorem dL_law_355 : decode cL_law 355 = .ok (.iaload, 1) := by decide +kernel
theorem dL_law_356 : decode cL_law 356 = .ok (.aload_n 0, 1) := by decide +kernel
theorem dL_law_357 : decode cL_law 357 = .ok (.iload_n 3, 1) := by decide +kernel
theorem dL_law_358 : decode cL_law 358 = .ok (.iconst 2, 1) := by decide +kernel
theorem dL_law_359 : decode cL_law 359 = .ok (.iadd, 1) := by decide +kernel
theorem dL_law_360 : decode cL_law 360 = .ok (.iaload, 1) := by decide +kernel
theorem dL_law_361 : decode cL_law 361 = .ok (.invokevirtual 43, 3) := by decide +kernel
theorem dL_law_364 : decode cL_law 364 = .ok (.if_icmp .eq 369, 3) := by decide +kernel
theorem dL_law_367 : decode cL_law 367 = .ok (.iconst 0, 1) := by decide +kernel
theorem dL_law_368 : decode cL_law 368 = .ok (.ireturn, 1) := by decide +kernel
theorem dL_law_369 : decode cL_law 369 = .ok (.aload_n 1, 1) := by decide +kernel
theorem dL_law_370 : decode cL_law 370 = .ok (.invokevirtual 44, 3) := by decide +kernel
theorem dL_law_373 : decode cL_law 373 = .ok (.aload_n 2, 1) := by decide +kernel
theorem dL_law_374 : decode cL_law 374 = .ok (.invokevirtual 48, 3) := by decide +kernel
theorem dL_law_377 : decode cL_law 377 = .ok (.if_icmp .eq 356, 3) := by decide +kernel
theorem dL_law_380 : decode cL_law 380 = .ok (.iconst 0, 1) := by decide +kernel
theorem dL_law_381 : decode cL_law 381 = .ok (.ireturn, 1) := by decide +kernel
theorem dL_law_382 : decode cL_law 382 = .ok (.aload_n 1, 1) := by decide +kernel
theorem dL_law_383 : decode cL_law 383 = .ok (.aload_n 0, 1) := by decide +kernel
theorem dL_law_384 : decode cL_law 384 = .ok (.iload_n 3, 1) := by decide +kernel
theorem dL_law_385 : decode cL_law 385 = .ok (.iconst 1, 1) := by decide +kernel
theorem dL_law_386 : decode cL_law 386 = .ok (.iadd, 1) := by decide +kernel
theorem dL_law_387 : decode cL_law 387 = .ok (.iaload, 1) := by decide +kernel
theorem dL_law_388 : decode cL_law 388 = .ok (.invokevirtual 49, 3) := by decide +kernel
theorem dL_law_391 : decode cL_law 391 = .ok (.aload_n 2, 1) := by decide +kernel
theorem dL_law_392 : decode cL_law 392 = .ok (.aload_n 0, 1) := by decide +kernel
theorem dL_law_393 : decode cL_law 393 = .ok (.iload_n 3, 1) := by decide +kernel
theorem dL_law_394 : decode cL_law 394 = .ok (.iconst 1, 1) := by decide +kernel
theorem dL_law_395 : decode cL_law 395 = .ok (.iadd, 1) := by decide +kernel
theorem dL_law_396 : decode cL_law 396 = .ok (.iaload, 1) := by decide +kernel
theorem dL_law_397 : decode cL_law 397 = .ok (.invokevirtual 52, 3) := by decide +kernel
theorem dL_law_400 : decode cL_law 400 = .ok (.if_icmp .eq 333, 3) := by decide +kernel
theorem dL_law_403 : decode cL_law 403 = .ok (.iconst 0, 1) := by decide +kernel
theorem dL_law_404 : decode cL_law 404 = .ok (.ireturn, 1) := by decide +kernel
theorem dL_law_405 : decode cL_law 405 = .ok (.aload_n 1, 1) := by decide +kernel
theorem dL_law_406 : decode cL_law 406 = .ok (.aload_n 0, 1) := by decide +kernel
theorem dL_law_407 : decode cL_law 407 = .ok (.iload_n 3, 1) := by decide +kernel
theorem dL_law_408 : decode cL_law 408 = .ok (.iconst 1, 1) := by decide +kernel
theorem dL_law_409 : decode cL_law 409 = .ok (.iadd, 1) := by decide +kernel
theorem dL_law_410 : decode cL_law 410 = .ok (.iaload, 1) := by decide +kernel
theorem dL_law_411 : decode cL_law 411 = .ok (.invokevirtual 53, 3) := by decide +kernel
theorem dL_law_414 : decode cL_law 414 = .ok (.aload_n 2, 1) := by decide +kernel
theorem dL_law_415 : decode cL_law 415 = .ok (.aload_n 0, 1) := by decide +kernel
theorem dL_law_416 : decode cL_law 416 = .ok (.iload_n 3, 1) := by decide +kernel
theorem dL_law_417 : decode cL_law 417 = .ok (.iconst 1, 1) := by decide +kernel
theorem dL_law_418 : decode cL_law 418 = .ok (.iadd, 1) := by decide +kernel
theorem dL_law_419 : decode cL_law 419 = .ok (.iaload, 1) := by decide +kernel
theorem dL_law_420 : decode cL_law 420 = .ok (.invokevirtual 56, 3) := by decide +kernel
theorem dL_law_423 : decode cL_law 423 = .ok (.if_icmp .eq 310, 3) := by decide +kernel
theorem dL_law_426 : decode cL_law 426 = .ok (.iconst 0, 1) := by decide +kernel
theorem dL_law_427 : decode cL_law 427 = .ok (.ireturn, 1) := by decide +kernel
theorem dL_law_428 : decode cL_law 428 = .ok (.aload_n 1, 1) := by decide +kernel
theorem dL_law_429 : decode cL_law 429 = .ok (.aload_n 0, 1) := by decide +kernel
theorem dL_law_430 : decode cL_law 430 = .ok (.iload_n 3, 1) := by decide +kernel
theorem dL_law_431 : decode cL_law 431 = .ok (.iconst 1, 1) := by decide +kernel
theorem dL_law_432 : decode cL_law 432 = .ok (.iadd, 1) := by decide +kernel
theorem dL_law_433 : decode cL_law 433 = .ok (.iaload, 1) := by decide +kernel
theorem dL_law_434 : decode cL_law 434 = .ok (.invokevirtual 57, 3) := by decide +kernel
theorem dL_law_437 : decode cL_law 437 = .ok (.aload_n 2, 1) := by decide +kernel
theorem dL_law_438 : decode cL_law 438 = .ok (.aload_n 0, 1) := by decide +kernel
theorem dL_law_439 : decode cL_law 439 = .ok (.iload_n 3, 1) := by decide +kernel
theorem dL_law_440 : decode cL_law 440 = .ok (.iconst 1, 1) := by decide +kernel
theorem dL_law_441 : decode cL_law 441 = .ok (.iadd, 1) := by decide +kernel
theorem dL_law_442 : decode cL_law 442 = .ok (.iaload, 1) := by decide +kernel
theorem dL_law_443 : decode cL_law 443 = .ok (.invokevirtual 60, 3) := by decide +kernel
theorem dL_law_446 : decode cL_law 446 = .ok (.if_icmp .eq 287, 3) := by decide +kernel
theorem dL_law_449 : decode cL_law 449 = .ok (.iconst 0, 1) := by decide +kernel
theorem dL_law_450 : decode cL_law 450 = .ok (.ireturn, 1) := by decide +kernel
theorem dL_law_451 : decode cL_law 451 = .ok (.aload_n 1, 1) := by decide +kernel
theorem dL_law_452 : decode cL_law 452 = .ok (.invokevirtual 61, 3) := by decide +kernel
theorem dL_law_455 : decode cL_law 455 = .ok (.aload_n 2, 1) := by decide +kernel
theorem dL_law_456 : decode cL_law 456 = .ok (.invokevirtual 64, 3) := by decide +kernel
theorem dL_law_459 : decode cL_law 459 = .ok (.if_icmp .eq 274, 3) := by decide +kernel
theorem dL_law_462 : decode cL_law 462 = .ok (.iconst 0, 1) := by decide +kernel
theorem dL_law_463 : decode cL_law 463 = .ok (.ireturn, 1) := by decide +kernel
theorem dL_law_464 : decode cL_law 464 = .ok (.aload_n 1, 1) := by decide +kernel
theorem dL_law_465 : decode cL_law 465 = .ok (.invokevirtual 65, 3) := by decide +kernel
theorem dL_law_468 : decode cL_law 468 = .ok (.aload_n 2, 1) := by decide +kernel
theorem dL_law_469 : decode cL_law 469 = .ok (.invokevirtual 68, 3) := by decide +kernel
theorem dL_law_472 : decode cL_law 472 = .ok (.if_icmp .eq 261, 3) := by decide +kernel
theorem dL_law_475 : decode cL_law 475 = .ok (.iconst 0, 1) := by decide +kernel
theorem dL_law_476 : decode cL_law 476 = .ok (.ireturn, 1) := by decide +kernel
theorem dL_law_477 : decode cL_law 477 = .ok (.aload_n 1, 1) := by decide +kernel
theorem dL_law_478 : decode cL_law 478 = .ok (.aload_n 0, 1) := by decide +kernel
theorem dL_law_479 : decode cL_law 479 = .ok (.iload_n 3, 1) := by decide +kernel
theorem dL_law_480 : decode cL_law 480 = .ok (.iconst 1, 1) := by decide +kernel
theorem dL_law_481 : decode cL_law 481 = .ok (.iadd, 1) := by decide +kernel
theorem dL_law_482 : decode cL_law 482 = .ok (.iaload, 1) := by decide +kernel
theorem dL_law_483 : decode cL_law 483 = .ok (.invokevirtual 69, 3) := by decide +kernel
theorem dL_law_486 : decode cL_law 486 = .ok (.aload_n 2, 1) := by decide +kernel
theorem dL_law_487 : decode cL_law 487 = .ok (.aload_n 0, 1) := by decide +kernel
theorem dL_law_488 : decode cL_law 488 = .ok (.iload_n 3, 1) := by decide +kernel
theorem dL_law_489 : decode cL_law 489 = .ok (.iconst 1, 1) := by decide +kernel
theorem dL_law_490 : decode cL_law 490 = .ok (.iadd, 1) := by decide +kernel
theorem dL_law_491 : decode cL_law 491 = .ok (.iaload, 1) := by decide +kernel
theorem dL_law_492 : decode cL_law 492 = .ok (.invokevirtual 72, 3) := by decide +kernel
theorem dL_law_495 : decode cL_law 495 = .ok (.if_icmp .eq 238, 3) := by decide +kernel
theorem dL_law_498 : decode cL_law 498 = .ok (.iconst 0, 1) := by decide +kernel
theorem dL_law_499 : decode cL_law 499 = .ok (.ireturn, 1) := by decide +kernel
theorem dL_law_500 : decode cL_law 500 = .ok (.aload_n 1, 1) := by decide +kernel
theorem dL_law_501 : decode cL_law 501 = .ok (.aload_n 0, 1) := by decide +kernel
theorem dL_law_502 : decode cL_law 502 = .ok (.iload_n 3, 1) := by decide +kernel
theorem dL_law_503 : decode cL_law 503 = .ok (.iconst 1, 1) := by decide +kernel
theorem dL_law_504 : decode cL_law 504 = .ok (.iadd, 1) := by decide +kernel
theorem dL_law_505 : decode cL_law 505 = .ok (.iaload, 1) := by decide +kernel
theorem dL_law_506 : decode cL_law 506 = .ok (.aload_n 0, 1) := by decide +kernel
theorem dL_law_507 : decode cL_law 507 = .ok (.iload_n 3, 1) := by decide +kernel
theorem dL_law_508 : decode cL_law 508 = .ok (.iconst 2, 1) := by decide +kernel
theorem dL_law_509 : decode cL_law 509 = .ok (.iadd, 1) := by decide +kernel
theorem dL_law_510 : decode cL_law 510 = .ok (.iaload, 1) := by decide +kernel
theorem dL_law_511 : decode cL_law 511 = .ok (.invokevirtual 73, 3) := by decide +kernel
theorem dL_law_514 : decode cL_law 514 = .ok (.aload_n 2, 1) := by decide +kernel
theorem dL_law_515 : decode cL_law 515 = .ok (.aload_n 0, 1) := by decide +kernel
theorem dL_law_516 : decode cL_law 516 = .ok (.iload_n 3, 1) := by decide +kernel
theorem dL_law_517 : decode cL_law 517 = .ok (.iconst 1, 1) := by decide +kernel
theorem dL_law_518 : decode cL_law 518 = .ok (.iadd, 1) := by decide +kernel
theorem dL_law_519 : decode cL_law 519 = .ok (.iaload, 1) := by decide +kernel
theorem dL_law_520 : decode cL_law 520 = .ok (.aload_n 0, 1) := by decide +kernel
theorem dL_law_521 : decode cL_law 521 = .ok (.iload_n 3, 1) := by decide +kernel
theorem dL_law_522 : decode cL_law 522 = .ok (.iconst 2, 1) := by decide +kernel
theorem dL_law_523 : decode cL_law 523 = .ok (.iadd, 1) := by decide +kernel
theorem dL_law_524 : decode cL_law 524 = .ok (.iaload, 1) := by decide +kernel
theorem dL_law_525 : decode cL_law 525 = .ok (.invokevirtual 76, 3) := by decide +kernel
theorem dL_law_528 : decode cL_law 528 = .ok (.if_icmp .eq 205, 3) := by decide +kernel
theorem dL_law_531 : decode cL_law 531 = .ok (.iconst 0, 1) := by decide +kernel
theorem dL_law_532 : decode cL_law 532 = .ok (.ireturn, 1) := by decide +kernel
theorem dL_law_533 : decode cL_law 533 = .ok (.aload_n 1, 1) := by decide +kernel
theorem dL_law_534 : decode cL_law 534 = .ok (.aload_n 0, 1) := by decide +kernel
theorem dL_law_535 : decode cL_law 535 = .ok (.iload_n 3, 1) := by decide +kernel
theorem dL_law_536 : decode cL_law 536 = .ok (.iconst 1, 1) := by decide +kernel
theorem dL_law_537 : decode cL_law 537 = .ok (.iadd, 1) := by decide +kernel
theorem dL_law_538 : decode cL_law 538 = .ok (.iaload, 1) := by decide +kernel
theorem dL_law_539 : decode cL_law 539 = .ok (.invokevirtual 77, 3) := by decide +kernel
theorem dL_law_542 : decode cL_law 542 = .ok (.aload_n 2, 1) := by decide +kernel
theorem dL_law_543 : decode cL_law 543 = .ok (.aload_n 0, 1) := by decide +kernel
theorem dL_law_544 : decode cL_law 544 = .ok (.iload_n 3, 1) := by decide +kernel
theorem dL_law_545 : decode cL_law 545 = .ok (.iconst 1, 1) := by decide +kernel
theorem dL_law_546 : decode cL_law 546 = .ok (.iadd, 1) := by decide +kernel
theorem dL_law_547 : decode cL_law 547 = .ok (.iaload, 1) := by decide +kernel
theorem dL_law_548 : decode cL_law 548 = .ok (.invokevirtual 80, 3) := by decide +kernel
theorem dL_law_551 : decode cL_law 551 = .ok (.if_icmp .eq 182, 3) := by decide +kernel
theorem dL_law_554 : decode cL_law 554 = .ok (.iconst 0, 1) := by decide +kernel
theorem dL_law_555 : decode cL_law 555 = .ok (.ireturn, 1) := by decide +kernel
theorem dL_law_556 : decode cL_law 556 = .ok (.aload_n 1, 1) := by decide +kernel
theorem dL_law_557 : decode cL_law 557 = .ok (.aload_n 0, 1) := by decide +kernel
theorem dL_law_558 : decode cL_law 558 = .ok (.iload_n 3, 1) := by decide +kernel
theorem dL_law_559 : decode cL_law 559 = .ok (.iconst 1, 1) := by decide +kernel
theorem dL_law_560 : decode cL_law 560 = .ok (.iadd, 1) := by decide +kernel
theorem dL_law_561 : decode cL_law 561 = .ok (.iaload, 1) := by decide +kernel
theorem dL_law_562 : decode cL_law 562 = .ok (.invokevirtual 81, 3) := by decide +kernel
theorem dL_law_565 : decode cL_law 565 = .ok (.aload_n 2, 1) := by decide +kernel
theorem dL_law_566 : decode cL_law 566 = .ok (.aload_n 0, 1) := by decide +kernel
theorem dL_law_567 : decode cL_law 567 = .ok (.iload_n 3, 1) := by decide +kernel
theorem dL_law_568 : decode cL_law 568 = .ok (.iconst 1, 1) := by decide +kernel
theorem dL_law_569 : decode cL_law 569 = .ok (.iadd, 1) := by decide +kernel
theorem dL_law_570 : decode cL_law 570 = .ok (.iaload, 1) := by decide +kernel
theorem dL_law_571 : decode cL_law 571 = .ok (.invokevirtual 84, 3) := by decide +kernel
theorem dL_law_574 : decode cL_law 574 = .ok (.if_icmp .eq 159, 3) := by decide +kernel
theorem dL_law_577 : decode cL_law 577 = .ok (.iconst 0, 1) := by decide +kernel
theorem dL_law_578 : decode cL_law 578 = .ok (.ireturn, 1) := by decide +kernel
theorem dL_law_579 : decode cL_law 579 = .ok (.aload_n 1, 1) := by decide +kernel
theorem dL_law_580 : decode cL_law 580 = .ok (.aload_n 0, 1) := by decide +kernel
theorem dL_law_581 : decode cL_law 581 = .ok (.iload_n 3, 1) := by decide +kernel
theorem dL_law_582 : decode cL_law 582 = .ok (.iconst 1, 1) := by decide +kernel
theorem dL_law_583 : decode cL_law 583 = .ok (.iadd, 1) := by decide +kernel
theorem dL_law_584 : decode cL_law 584 = .ok (.iaload, 1) := by decide +kernel
theorem dL_law_585 : decode cL_law 585 = .ok (.invokevirtual 85, 3) := by decide +kernel
theorem dL_law_588 : decode cL_law 588 = .ok (.aload_n 2, 1) := by decide +kernel
theorem dL_law_589 : decode cL_law 589 = .ok (.aload_n 0, 1) := by decide +kernel
theorem dL_law_590 : decode cL_law 590 = .ok (.iload_n 3, 1) := by decide +kernel
theorem dL_law_591 : decode cL_law 591 = .ok (.iconst 1, 1) := by decide +kernel
theorem dL_law_592 : decode cL_law 592 = .ok (.iadd, 1) := by decide +kernel
theorem dL_law_593 : decode cL_law 593 = .ok (.iaload, 1) := by decide +kernel
theorem dL_law_594 : decode cL_law 594 = .ok (.invokevirtual 88, 3) := by decide +kernel
theorem dL_law_597 : decode cL_law 597 = .ok (.if_icmp .eq 136, 3) := by decide +kernel
theorem dL_law_600 : decode cL_law 600 = .ok (.iconst 0, 1) := by decide +kernel
theorem dL_law_601 : decode cL_law 601 = .ok (.ireturn, 1) := by decide +kernel
theorem dL_law_602 : decode cL_law 602 = .ok (.aload_n 1, 1) := by decide +kernel
theorem dL_law_603 : decode cL_law 603 = .ok (.aload_n 0, 1) := by decide +kernel
theorem dL_law_604 : decode cL_law 604 = .ok (.iload_n 3, 1) := by decide +kernel
theorem dL_law_605 : decode cL_law 605 = .ok (.iconst 1, 1) := by decide +kernel
theorem dL_law_606 : decode cL_law 606 = .ok (.iadd, 1) := by decide +kernel
theorem dL_law_607 : decode cL_law 607 = .ok (.iaload, 1) := by decide +kernel
theorem dL_law_608 : decode cL_law 608 = .ok (.invokevirtual 89, 3) := by decide +kernel
theorem dL_law_611 : decode cL_law 611 = .ok (.aload_n 2, 1) := by decide +kernel
theorem dL_law_612 : decode cL_law 612 = .ok (.aload_n 0, 1) := by decide +kernel
theorem dL_law_613 : decode cL_law 613 = .ok (.iload_n 3, 1) := by decide +kernel
theorem dL_law_614 : decode cL_law 614 = .ok (.iconst 1, 1) := by decide +kernel
theorem dL_law_615 : decode cL_law 615 = .ok (.iadd, 1) := by decide +kernel
theorem dL_law_616 : decode cL_law 616 = .ok (.iaload, 1) := by decide +kernel
theorem dL_law_617 : decode cL_law 617 = .ok (.invokevirtual 92, 3) := by decide +kernel
theorem dL_law_620 : decode cL_law 620 = .ok (.if_icmp .eq 113, 3) := by decide +kernel
theorem dL_law_623 : decode cL_law 623 = .ok (.iconst 0, 1) := by decide +kernel
theorem dL_law_624 : decode cL_law 624 = .ok (.ireturn, 1) := by decide +kernel
theorem dL_law_625 : decode cL_law 625 = .ok (.aload_n 1, 1) := by decide +kernel
theorem dL_law_626 : decode cL_law 626 = .ok (.aload_n 0, 1) := by decide +kernel
theorem dL_law_627 : decode cL_law 627 = .ok (.iload_n 3, 1) := by decide +kernel
theorem dL_law_628 : decode cL_law 628 = .ok (.iconst 1, 1) := by decide +kernel
theorem dL_law_629 : decode cL_law 629 = .ok (.iadd, 1) := by decide +kernel
theorem dL_law_630 : decode cL_law 630 = .ok (.iaload, 1) := by decide +kernel
theorem dL_law_631 : decode cL_law 631 = .ok (.invokevirtual 93, 3) := by decide +kernel
theorem dL_law_634 : decode cL_law 634 = .ok (.aload_n 2, 1) := by decide +kernel
theorem dL_law_635 : decode cL_law 635 = .ok (.aload_n 0, 1) := by decide +kernel
theorem dL_law_636 : decode cL_law 636 = .ok (.iload_n 3, 1) := by decide +kernel
theorem dL_law_637 : decode cL_law 637 = .ok (.iconst 1, 1) := by decide +kernel
theorem dL_law_638 : decode cL_law 638 = .ok (.iadd, 1) := by decide +kernel
theorem dL_law_639 : decode cL_law 639 = .ok (.iaload, 1) := by decide +kernel
theorem dL_law_640 : decode cL_law 640 = .ok (.invokevirtual 96, 3) := by decide +kernel
theorem dL_law_643 : decode cL_law 643 = .ok (.if_icmp .eq 90, 3) := by decide +kernel
theorem dL_law_646 : decode cL_law 646 = .ok (.iconst 0, 1) := by decide +kernel
theorem dL_law_647 : decode cL_law 647 = .ok (.ireturn, 1) := by decide +kernel
theorem dL_law_648 : decode cL_law 648 = .ok (.aload_n 1, 1) := by decide +kernel
theorem dL_law_649 : decode cL_law 649 = .ok (.invokevirtual 97, 3) := by decide +kernel
theorem dL_law_652 : decode cL_law 652 = .ok (.aload_n 2, 1) := by decide +kernel
theorem dL_law_653 : decode cL_law 653 = .ok (.invokevirtual 100, 3) := by decide +kernel
theorem dL_law_656 : decode cL_law 656 = .ok (.if_icmp .eq 77, 3) := by decide +kernel
theorem dL_law_659 : decode cL_law 659 = .ok (.iconst 0, 1) := by decide +kernel
theorem dL_law_660 : decode cL_law 660 = .ok (.ireturn, 1) := by decide +kernel
theorem dL_law_661 : decode cL_law 661 = .ok (.aload_n 1, 1) := by decide +kernel
theorem dL_law_662 : decode cL_law 662 = .ok (.aload_n 0, 1) := by decide +kernel
theorem dL_law_663 : decode cL_law 663 = .ok (.iload_n 3, 1) := by decide +kernel
theorem dL_law_664 : decode cL_law 664 = .ok (.iconst 1, 1) := by decide +kernel
theorem dL_law_665 : decode cL_law 665 = .ok (.iadd, 1) := by decide +kernel
theorem dL_law_666 : decode cL_law 666 = .ok (.iaload, 1) := by decide +kernel
theorem dL_law_667 : decode cL_law 667 = .ok (.invokevirtual 101, 3) := by decide +kernel
theorem dL_law_670 : decode cL_law 670 = .ok (.aload_n 2, 1) := by decide +kernel
theorem dL_law_671 : decode cL_law 671 = .ok (.aload_n 0, 1) := by decide +kernel
theorem dL_law_672 : decode cL_law 672 = .ok (.iload_n 3, 1) := by decide +kernel
theorem dL_law_673 : decode cL_law 673 = .ok (.iconst 1, 1) := by decide +kernel
theorem dL_law_674 : decode cL_law 674 = .ok (.iadd, 1) := by decide +kernel
theorem dL_law_675 : decode cL_law 675 = .ok (.iaload, 1) := by decide +kernel
theorem dL_law_676 : decode cL_law 676 = .ok (.invokevirtual 104, 3) := by decide +kernel
theorem dL_law_679 : decode cL_law 679 = .ok (.if_icmp .eq 54, 3) := by decide +kernel
theorem dL_law_682 : decode cL_law 682 = .ok (.iconst 0, 1) := by decide +kernel
theorem dL_law_683 : decode cL_law 683 = .ok (.ireturn, 1) := by decide +kernel
theorem dL_law_684 : decode cL_law 684 = .ok (.aload_n 1, 1) := by decide +kernel
theorem dL_law_685 : decode cL_law 685 = .ok (.invokevirtual 105, 3) := by decide +kernel
theorem dL_law_688 : decode cL_law 688 = .ok (.aload_n 2, 1) := by decide +kernel
theorem dL_law_689 : decode cL_law 689 = .ok (.invokevirtual 108, 3) := by decide +kernel
theorem dL_law_692 : decode cL_law 692 = .ok (.if_icmp .eq 41, 3) := by decide +kernel
theorem dL_law_695 : decode cL_law 695 = .ok (.iconst 0, 1) := by decide +kernel
theorem dL_law_696 : decode cL_law 696 = .ok (.ireturn, 1) := by decide +kernel
theorem dL_law_697 : decode cL_law 697 = .ok (.aload_n 1, 1) := by decide +kernel
theorem dL_law_698 : decode cL_law 698 = .ok (.aload_n 0, 1) := by decide +kernel
theorem dL_law_699 : decode cL_law 699 = .ok (.iload_n 3, 1) := by decide +kernel
theorem dL_law_700 : decode cL_law 700 = .ok (.iconst 1, 1) := by decide +kernel
theorem dL_law_701 : decode cL_law 701 = .ok (.iadd, 1) := by decide +kernel
theorem dL_law_702 : decode cL_law 702 = .ok (.iaload, 1) := by decide +kernel
theorem dL_law_703 : decode cL_law 703 = .ok (.invokevirtual 109, 3) := by decide +kernel
theorem dL_law_706 : decode cL_law 706 = .ok (.aload_n 2, 1) := by decide +kernel
theorem dL_law_707 : decode cL_law 707 = .ok (.aload_n 0, 1) := by decide +kernel
theorem dL_law_708 : decode cL_law 708 = .ok (.iload_n 3, 1) := by decide +kernel
theorem dL_law_709 : decode cL_law 709 = .ok (.iconst 1, 1) := by decide +kernel
theorem dL_law_710 : decode cL_law 710 = .ok (.iadd, 1) := by decide +kernel
theorem dL_law_711 : decode cL_law 711 = .ok (.iaload, 1) := by decide +kernel
theorem dL_law_712 : decode cL_law 712 = .ok (.invokevirtual 112, 3) := by decide +kernel
theorem dL_law_715 : decode cL_law 715 = .ok (.if_icmp .eq 18, 3) := by decide +kernel
theorem dL_law_718 : decode cL_law 718 = .ok (.iconst 0, 1) := by decide +kernel
theorem dL_law_719 : decode cL_law 719 = .ok (.ireturn, 1) := by decide +kernel
theorem dL_law_720 : decode cL_law 720 = .ok (.aload_n 1, 1) := by decide +kernel
theorem dL_law_721 : decode cL_law 721 = .ok (.invokevirtual 113, 3) := by decide +kernel
theorem dL_law_724 : decode cL_law 724 = .ok (.aload_n 2, 1) := by decide +kernel
theorem dL_law_725 : decode cL_law 725 = .ok (.invokevirtual 116, 3) := by decide +kernel
theorem dL_law_728 : decode cL_law 728 = .ok (.if_icmp .eq 5, 3) := by decide +kernel
theorem dL_law_731 : decode cL_law 731 = .ok (.iconst 0, 1) := by decide +kernel
theorem dL_law_732 : decode cL_law 732 = .ok (.ireturn, 1) := by decide +kernel
theorem dL_law_733 : decode cL_law 733 = .ok (.iinc 3 4, 3) := by decide +kernel
theorem dL_law_736 : decode cL_law 736 = .ok (.goto (-718), 3) := by decide +kernel
theorem dL_law_739 : decode cL_law 739 = .ok (.iconst 1, 1) := by decide +kernel
theorem dL_law_740 : decode cL_law 740 = .ok (.ireturn, 1) := by decide +kernel
abbrev vwCl : List vw_C := [(RX0, TX0, 1), (RX1, TX1, 2), (RX2, TX2, 4), (RX3, TX3, 2), (RX4, TX4, 5), (RX5, TX5, 4), (RX6, TX6, 6), (RX7, TX7, 13), (RX8, TX8, 6), (RX9, TX9, 19)]
