theorem dX5_run_38 : decode cX5_run 38 = .ok (.aload_n 1, 1) := by decide +kernel
theorem dX5_run_39 : decode cX5_run 39 = .ok (.getfield 27, 3) := by decide +kernel
theorem dX5_run_42 : decode cX5_run 42 = .ok (.putfield 30, 3) := by decide +kernel
theorem dX5_run_45 : decode cX5_run 45 = .ok (.aload_n 1, 1) := by decide +kernel
theorem dX5_run_46 : decode cX5_run 46 = .ok (.invokevirtual 31, 3) := by decide +kernel
theorem dX5_run_49 : decode cX5_run 49 = .ok (.ifCond .eq 17, 3) := by decide +kernel
theorem dX5_run_52 : decode cX5_run 52 = .ok (.aload_n 0, 1) := by decide +kernel
theorem dX5_run_53 : decode cX5_run 53 = .ok (.aload_n 0, 1) := by decide +kernel
theorem dX5_run_54 : decode cX5_run 54 = .ok (.aload_n 1, 1) := by decide +kernel
theorem dX5_run_55 : decode cX5_run 55 = .ok (.aload_n 2, 1) := by decide +kernel
theorem dX5_run_56 : decode cX5_run 56 = .ok (.aload_n 3, 1) := by decide +kernel
theorem dX5_run_57 : decode cX5_run 57 = .ok (.invokevirtual 34, 3) := by decide +kernel
theorem dX5_run_60 : decode cX5_run 60 = .ok (.invokevirtual 38, 3) := by decide +kernel
theorem dX5_run_63 : decode cX5_run 63 = .ok (.goto (-49), 3) := by decide +kernel
theorem dX5_run_66 : decode cX5_run 66 = .ok (.aload_n 0, 1) := by decide +kernel
theorem dX5_run_67 : decode cX5_run 67 = .ok (.iconst 1, 1) := by decide +kernel
theorem dX5_run_68 : decode cX5_run 68 = .ok (.putfield 15, 3) := by decide +kernel
theorem dX5_run_71 : decode cX5_run 71 = .ok (.goto (-57), 3) := by decide +kernel
theorem dX5_run_74 : decode cX5_run 74 = .ok (.return_, 1) := by decide +kernel
set_option maxRecDepth 20000 in
theorem ggX5_note_X8_isError : GoodIn wsX5_note wsX8_isError := goodIn_r _ [6, 7] (by decide +kernel) (by decide +kernel)
set_option maxRecDepth 20000 in
theorem gX5_note_X8_isError_n42 : GoodIn wsX5_note (wsX8_isError) := ggX5_note_X8_isError
theorem dX5_note_0 : decode cX5_note 0 = .ok (.iload_n 1, 1) := by decide +kernel
theorem dX5_note_1 : decode cX5_note 1 = .ok (.invokestatic 42, 3) := by decide +kernel
theorem dX5_note_4 : decode cX5_note 4 = .ok (.ifCond .eq 16, 3) := by decide +kernel
theorem dX5_note_7 : decode cX5_note 7 = .ok (.aload_n 0, 1) := by decide +kernel
theorem dX5_note_8 : decode cX5_note 8 = .ok (.iconst 2, 1) := by decide +kernel
theorem dX5_note_9 : decode cX5_note 9 = .ok (.putfield 15, 3) := by decide +kernel
theorem dX5_note_12 : decode cX5_note 12 = .ok (.aload_n 0, 1) := by decide +kernel
theorem dX5_note_13 : decode cX5_note 13 = .ok (.iload_n 1, 1) := by decide +kernel
theorem dX5_note_14 : decode cX5_note 14 = .ok (.putfield 46, 3) := by decide +kernel
theorem dX5_note_17 : decode cX5_note 17 = .ok (.goto 13, 3) := by decide +kernel
theorem dX5_note_20 : decode cX5_note 20 = .ok (.aload_n 0, 1) := by decide +kernel
theorem dX5_note_21 : decode cX5_note 21 = .ok (.dup, 1) := by decide +kernel
theorem dX5_note_22 : decode cX5_note 22 = .ok (.getfield 9, 3) := by decide +kernel
theorem dX5_note_25 : decode cX5_note 25 = .ok (.iconst 1, 1) := by decide +kernel
theorem dX5_note_26 : decode cX5_note 26 = .ok (.iadd, 1) := by decide +kernel
theorem dX5_note_27 : decode cX5_note 27 = .ok (.putfield 9, 3) := by decide +kernel
theorem dX5_note_30 : decode cX5_note 30 = .ok (.return_, 1) := by decide +kernel
set_option maxRecDepth 20000 in
theorem ggX5_answerTo_X0_goTo : GoodIn wsX5_answerTo wsX0_goTo := goodIn_r _ [5, 6, 7, 8, 9, 10, 11, 12, 13, 4, 14, 15, 16, 17, 18, 19, 20, 21, 22, 23, 24, 25, 26, 27, 28, 29, 30, 31, 32, 33, 34, 35, 36, 37, 38, 39, 40, 41, 42, 43, 44, 45, 46, 47, 48, 49, 50, 51, 52, 53, 54, 55, 56, 57, 58, 59, 60, 61, 62, 63, 64, 65, 66, 67, 68, 69, 70, 71, 72, 73, 74, 75, 76, 77, 78, 79, 80, 81, 82, 83, 84, 85, 86, 87, 88, 89, 90, 91, 92, 93, 94, 95, 96, 97, 98, 99, 100, 101, 102, 103, 156, 143, 144, 145, 146, 147, 148, 149, 150, 151, 152, 153, 154, 155, 157, 158, 159, 160, 161, 162, 163, 164, 165, 166, 167] (by decide +kernel) (by decide +kernel)
set_option maxRecDepth 20000 in
theorem gX5_answerTo_X0_goTo : GoodIn wsX5_answerTo (wsV RX5 55 RX0 yX0_goTo wsX0_goTo) := goodIn_app (goodIn_of _ (by decide +kernel)) ggX5_answerTo_X0_goTo
set_option maxRecDepth 20000 in
theorem ggX5_answerTo_X0_goBy : GoodIn wsX5_answerTo wsX0_goBy := goodIn_r _ [107, 15, 16, 17, 18, 19, 108, 2, 3, 4, 5, 6, 7, 8, 9, 10, 11, 12, 13, 14, 20, 21, 22, 23, 24, 25, 26, 27, 28, 29, 30, 31, 32, 33, 34, 35, 36, 37, 38, 39, 40, 41, 42, 43, 44, 45, 46, 47, 48, 49, 50, 51, 52, 53, 54, 55, 56, 57, 58, 59, 60, 61, 62, 63, 64, 65, 66, 67, 68, 69, 70, 71, 72, 73, 74, 75, 76, 77, 78, 79, 80, 81, 82, 83, 84, 85, 86, 87, 88, 89, 90, 91, 92, 93, 94, 95, 96, 97, 98, 99, 100, 101, 102, 103, 143, 144, 145, 146, 147, 148, 149, 150, 151, 152, 153, 154, 155, 156, 157, 158, 159, 160, 161, 162, 163, 164, 165, 166, 167] (by decide +kernel) (by decide +kernel)
set_option maxRecDepth 20000 in
theorem gX5_answerTo_X0_goBy : GoodIn wsX5_answerTo (wsV RX5 61 RX0 yX0_goBy wsX0_goBy) := goodIn_app (goodIn_of _ (by decide +kernel)) ggX5_answerTo_X0_goBy
set_option maxRecDepth 20000 in
theorem ggX5_answerTo_X7_putSetting : GoodIn wsX5_answerTo wsX7_putSetting := goodIn_r _ [112, 113, 78, 17, 18, 19, 143, 144, 145, 146, 147, 148, 149, 150, 151, 152, 153, 154, 155] (by decide +kernel) (by decide +kernel)
set_option maxRecDepth 20000 in
theorem gX5_answerTo_X7_putSetting : GoodIn wsX5_answerTo (wsV RX5 67 RX7 yX7_putSetting wsX7_putSetting) := goodIn_app (goodIn_of _ (by decide +kernel)) ggX5_answerTo_X7_putSetting
set_option maxRecDepth 20000 in
theorem ggX5_answerTo_X0_seekSwitch : GoodIn wsX5_answerTo wsX0_seekSwitch := goodIn_r _ [117, 6, 16, 20, 21, 22, 23, 24, 25, 26, 9, 27, 28, 29, 30, 31, 32, 33, 34, 35, 118, 119, 120, 4, 121, 122, 43, 44, 45, 46, 17, 18, 19, 47, 48, 49, 50, 51, 52, 53, 54, 55, 56, 57, 58, 59, 60, 61, 62, 63, 64, 65, 66, 67, 68, 69, 70, 71, 72, 73, 74, 75, 76, 77, 78, 79, 123, 124, 125, 126, 127, 128, 129, 130, 131, 132, 156, 143, 144, 145, 146, 147, 148, 149, 150, 151, 152, 153, 154, 155, 157, 158, 159, 160, 161, 162, 163, 164, 165] (by decide +kernel) (by decide +kernel)
set_option maxRecDepth 20000 in
theorem gX5_answerTo_X0_seekSwitch : GoodIn wsX5_answerTo (wsV RX5 73 RX0 yX0_seekSwitch wsX0_seekSwitch) := goodIn_app (goodIn_of _ (by decide +kernel)) ggX5_answerTo_X0_seekSwitch
set_option maxRecDepth 20000 in
theorem ggX5_answerTo_X3_empty : GoodIn wsX5_answerTo wsX3_empty := goodIn_r _ [136, 103, 166, 167] (by decide +kernel) (by decide +kernel)
set_option maxRecDepth 20000 in
theorem gX5_answerTo_X3_empty : GoodIn wsX5_answerTo (wsV RX5 81 RX3 yX3_empty wsX3_empty) := goodIn_app (goodIn_of _ (by decide +kernel)) ggX5_answerTo_X3_empty
theorem dX5_answerTo_0 : decode cX5_answerTo 0 = .ok (.aload_n 1, 1) := by decide +kernel
theorem dX5_answerTo_1 : decode cX5_answerTo 1 = .ok (.getfield 49, 3) := by decide +kernel
theorem dX5_answerTo_4 : decode cX5_answerTo 4 = .ok (.lookupswitch 83 #[(103, 44), (104, 77), (114, 54), (115, 64)], 44) := by decide +kernel
theorem dX5_answerTo_48 : decode cX5_answerTo 48 = .ok (.aload_n 3, 1) := by decide +kernel
theorem dX5_answerTo_49 : decode cX5_answerTo 49 = .ok (.aload_n 2, 1) := by decide +kernel
theorem dX5_answerTo_50 : decode cX5_answerTo 50 = .ok (.aload_n 1, 1) := by decide +kernel
theorem dX5_answerTo_51 : decode cX5_answerTo 51 = .ok (.getfield 52, 3) := by decide +kernel
theorem dX5_answerTo_54 : decode cX5_answerTo 54 = .ok (.invokevirtual 55, 3) := by decide +kernel
theorem dX5_answerTo_57 : decode cX5_answerTo 57 = .ok (.ireturn, 1) := by decide +kernel
theorem dX5_answerTo_58 : decode cX5_answerTo 58 = .ok (.aload_n 3, 1) := by decide +kernel
theorem dX5_answerTo_59 : decode cX5_answerTo 59 = .ok (.aload_n 2, 1) := by decide +kernel
theorem dX5_answerTo_60 : decode cX5_answerTo 60 = .ok (.aload_n 1, 1) := by decide +kernel
theorem dX5_answerTo_61 : decode cX5_answerTo 61 = .ok (.getfield 52, 3) := by decide +kernel
theorem dX5_answerTo_64 : decode cX5_answerTo 64 = .ok (.invokevirtual 61, 3) := by decide +kernel
theorem dX5_answerTo_67 : decode cX5_answerTo 67 = .ok (.ireturn, 1) := by decide +kernel
theorem dX5_answerTo_68 : decode cX5_answerTo 68 = .ok (.aload_n 2, 1) := by decide +kernel
theorem dX5_answerTo_69 : decode cX5_answerTo 69 = .ok (.aload_n 1, 1) := by decide +kernel
theorem dX5_answerTo_70 : decode cX5_answerTo 70 = .ok (.getfield 64, 3) := by decide +kernel
theorem dX5_answerTo_73 : decode cX5_answerTo 73 = .ok (.aload_n 1, 1) := by decide +kernel
theorem dX5_answerTo_74 : decode cX5_answerTo 74 = .ok (.getfield 52, 3) := by decide +kernel
theorem dX5_answerTo_77 : decode cX5_answerTo 77 = .ok (.invokevirtual 67, 3) := by decide +kernel
theorem dX5_answerTo_80 : decode cX5_answerTo 80 = .ok (.ireturn, 1) := by decide +kernel
theorem dX5_answerTo_81 : decode cX5_answerTo 81 = .ok (.aload_n 3, 1) := by decide +kernel
theorem dX5_answerTo_82 : decode cX5_answerTo 82 = .ok (.aload_n 2, 1) := by decide +kernel
theorem dX5_answerTo_83 : decode cX5_answerTo 83 = .ok (.invokevirtual 73, 3) := by decide +kernel
theorem dX5_answerTo_86 : decode cX5_answerTo 86 = .ok (.ireturn, 1) := by decide +kernel
theorem dX5_answerTo_87 : decode cX5_answerTo 87 = .ok (.aload_n 2, 1) := by decide +kernel
theorem dX5_answerTo_88 : decode cX5_answerTo 88 = .ok (.getfield 77, 3) := by decide +kernel
theorem dX5_answerTo_91 : decode cX5_answerTo 91 = .ok (.invokevirtual 81, 3) := by decide +kernel
theorem dX5_answerTo_94 : decode cX5_answerTo 94 = .ok (.ireturn, 1) := by decide +kernel
theorem dX6_init_0 : decode cX6_init 0 = .ok (.aload_n 0, 1) := by decide +kernel
theorem dX6_init_1 : decode cX6_init 1 = .ok (.invokespecial 3, 3) := by decide +kernel
theorem dX6_init_4 : decode cX6_init 4 = .ok (.aload_n 0, 1) := by decide +kernel
theorem dX6_init_5 : decode cX6_init 5 = .ok (.bipush 60, 2) := by decide +kernel
theorem dX6_init_7 : decode cX6_init 7 = .ok (.newarray .char, 2) := by decide +kernel
theorem dX6_init_9 : decode cX6_init 9 = .ok (.putfield 9, 3) := by decide +kernel
theorem dX6_init_12 : decode cX6_init 12 = .ok (.return_, 1) := by decide +kernel
set_option maxRecDepth 20000 in
theorem ggX6_append_X8_within : GoodIn wsX6_append wsX8_within := goodIn_r _ [7] (by decide +kernel) (by decide +kernel)
set_option maxRecDepth 20000 in
theorem gX6_append_X8_within_n15 : GoodIn wsX6_append (wsX8_within) := ggX6_append_X8_within
theorem dX6_append_0 : decode cX6_append 0 = .ok (.iload_n 1, 1) := by decide +kernel
theorem dX6_append_1 : decode cX6_append 1 = .ok (.bipush 32, 2) := by decide +kernel
theorem dX6_append_3 : decode cX6_append 3 = .ok (.bipush 126, 2) := by decide +kernel
theorem dX6_append_5 : decode cX6_append 5 = .ok (.invokestatic 15, 3) := by decide +kernel
theorem dX6_append_8 : decode cX6_append 8 = .ok (.ifCond .ne 6, 3) := by decide +kernel
theorem dX6_append_11 : decode cX6_append 11 = .ok (.ldc 19, 2) := by decide +kernel
theorem dX6_append_13 : decode cX6_append 13 = .ok (.ireturn, 1) := by decide +kernel
theorem dX6_append_14 : decode cX6_append 14 = .ok (.aload_n 0, 1) := by decide +kernel
theorem dX6_append_15 : decode cX6_append 15 = .ok (.getfield 20, 3) := by decide +kernel
theorem dX6_append_18 : decode cX6_append 18 = .ok (.bipush 60, 2) := by decide +kernel
theorem dX6_append_20 : decode cX6_append 20 = .ok (.if_icmp .lt 6, 3) := by decide +kernel
theorem dX6_append_23 : decode cX6_append 23 = .ok (.ldc 24, 2) := by decide +kernel
theorem dX6_append_25 : decode cX6_append 25 = .ok (.ireturn, 1) := by decide +kernel
theorem dX6_append_26 : decode cX6_append 26 = .ok (.aload_n 0, 1) := by decide +kernel
theorem dX6_append_27 : decode cX6_append 27 = .ok (.getfield 9, 3) := by decide +kernel
theorem dX6_append_30 : decode cX6_append 30 = .ok (.aload_n 0, 1) := by decide +kernel
theorem dX6_append_31 : decode cX6_append 31 = .ok (.getfield 20, 3) := by decide +kernel
theorem dX6_append_34 : decode cX6_append 34 = .ok (.iload_n 1, 1) := by decide +kernel
theorem dX6_append_35 : decode cX6_append 35 = .ok (.i2c, 1) := by decide +kernel
theorem dX6_append_36 : decode cX6_append 36 = .ok (.castore, 1) := by decide +kernel
theorem dX6_append_37 : decode cX6_append 37 = .ok (.aload_n 0, 1) := by decide +kernel
theorem dX6_append_38 : decode cX6_append 38 = .ok (.dup, 1) := by decide +kernel
theorem dX6_append_39 : decode cX6_append 39 = .ok (.getfield 20, 3) := by decide +kernel
theorem dX6_append_42 : decode cX6_append 42 = .ok (.iconst 1, 1) := by decide +kernel
theorem dX6_append_43 : decode cX6_append 43 = .ok (.iadd, 1) := by decide +kernel
theorem dX6_append_44 : decode cX6_append 44 = .ok (.putfield 20, 3) := by decide +kernel
theorem dX6_append_47 : decode cX6_append 47 = .ok (.aload_n 0, 1) := by decide +kernel
theorem dX6_append_48 : decode cX6_append 48 = .ok (.getfield 20, 3) := by decide +kernel
theorem dX6_append_51 : decode cX6_append 51 = .ok (.ireturn, 1) := by decide +kernel
theorem dX6_empty_0 : decode cX6_empty 0 = .ok (.aload_n 0, 1) := by decide +kernel
theorem dX6_empty_1 : decode cX6_empty 1 = .ok (.getfield 20, 3) := by decide +kernel
theorem dX6_empty_4 : decode cX6_empty 4 = .ok (.istore_n 1, 1) := by decide +kernel
theorem dX6_empty_5 : decode cX6_empty 5 = .ok (.aload_n 0, 1) := by decide +kernel
theorem dX6_empty_6 : decode cX6_empty 6 = .ok (.iconst 0, 1) := by decide +kernel
theorem dX6_empty_7 : decode cX6_empty 7 = .ok (.putfield 20, 3) := by decide +kernel
theorem dX6_empty_10 : decode cX6_empty 10 = .ok (.iload_n 1, 1) := by decide +kernel
theorem dX6_empty_11 : decode cX6_empty 11 = .ok (.ireturn, 1) := by decide +kernel
theorem dX6_startReading_0 : decode cX6_startReading 0 = .ok (.aload_n 0, 1) := by decide +kernel
theorem dX6_startReading_1 : decode cX6_startReading 1 = .ok (.iconst 0, 1) := by decide +kernel
theorem dX6_startReading_2 : decode cX6_startReading 2 = .ok (.putfield 25, 3) := by decide +kernel
theorem dX6_startReading_5 : decode cX6_startReading 5 = .ok (.return_, 1) := by decide +kernel
theorem dX6_isRead_0 : decode cX6_isRead 0 = .ok (.aload_n 0, 1) := by decide +kernel
theorem dX6_isRead_1 : decode cX6_isRead 1 = .ok (.getfield 25, 3) := by decide +kernel
theorem dX6_isRead_4 : decode cX6_isRead 4 = .ok (.aload_n 0, 1) := by decide +kernel
theorem dX6_isRead_5 : decode cX6_isRead 5 = .ok (.getfield 20, 3) := by decide +kernel
theorem dX6_isRead_8 : decode cX6_isRead 8 = .ok (.if_icmp .lt 7, 3) := by decide +kernel
theorem dX6_isRead_11 : decode cX6_isRead 11 = .ok (.iconst 1, 1) := by decide +kernel
theorem dX6_isRead_12 : decode cX6_isRead 12 = .ok (.goto 4, 3) := by decide +kernel
theorem dX6_isRead_15 : decode cX6_isRead 15 = .ok (.iconst 0, 1) := by decide +kernel
theorem dX6_isRead_16 : decode cX6_isRead 16 = .ok (.ireturn, 1) := by decide +kernel
set_option maxRecDepth 20000 in
theorem ggX6_readCommand_X6_sign : GoodIn wsX6_readCommand wsX6_sign := goodIn_r _ [7, 2, 8, 9, 31, 32, 33, 34, 35, 36] (by decide +kernel) (by decide +kernel)
set_option maxRecDepth 20000 in
theorem gX6_readCommand_X6_sign : GoodIn wsX6_readCommand (wsV RX6 28 RX6 yX6_sign wsX6_sign) := goodIn_app (goodIn_of _ (by decide +kernel)) ggX6_readCommand_X6_sign
set_option maxRecDepth 20000 in
theorem ggX6_readCommand_X6_readSigned : GoodIn wsX6_readCommand wsX6_readSigned := goodIn_r _ [13, 14, 15, 16, 17, 6, 18, 2, 3, 4, 5, 7, 8, 9, 19, 20, 21, 22, 23, 24, 25, 31, 32, 33, 34, 35, 36] (by decide +kernel) (by decide +kernel)
set_option maxRecDepth 20000 in
theorem gX6_readCommand_X6_readSigned : GoodIn wsX6_readCommand (wsV RX6 35 RX6 yX6_readSigned wsX6_readSigned) := goodIn_app (goodIn_of _ (by decide +kernel)) ggX6_readCommand_X6_readSigned
set_option maxRecDepth 20000 in
theorem ggX6_readCommand_X6_skip : GoodIn wsX6_readCommand wsX6_skip := goodIn_r _ [18, 2, 3, 4, 5, 6, 7, 8, 9, 31, 32, 33, 34, 35, 36] (by decide +kernel) (by decide +kernel)
set_option maxRecDepth 20000 in
theorem gX6_readCommand_X6_skip : GoodIn wsX6_readCommand (wsV RX6 39 RX6 yX6_skip wsX6_skip) := goodIn_app (goodIn_of _ (by decide +kernel)) ggX6_readCommand_X6_skip
set_option maxRecDepth 20000 in
theorem ggX6_readCommand_X6_readSetting : GoodIn wsX6_readCommand wsX6_readSetting := goodIn_r _ [29, 14, 30, 19, 20, 21, 6, 22, 2, 3, 4, 5, 7, 8, 9, 23, 24, 25, 31, 32, 33, 34, 35, 36] (by decide +kernel) (by decide +kernel)
set_option maxRecDepth 20000 in
theorem gX6_readCommand_X6_readSetting : GoodIn wsX6_readCommand (wsV RX6 43 RX6 yX6_readSetting wsX6_readSetting) := goodIn_app (goodIn_of _ (by decide +kernel)) ggX6_readCommand_X6_readSetting
theorem dX6_readCommand_0 : decode cX6_readCommand 0 = .ok (.aload_n 0, 1) := by decide +kernel
theorem dX6_readCommand_1 : decode cX6_readCommand 1 = .ok (.aload_n 0, 1) := by decide +kernel
theorem dX6_readCommand_2 : decode cX6_readCommand 2 = .ok (.invokevirtual 28, 3) := by decide +kernel
theorem dX6_readCommand_5 : decode cX6_readCommand 5 = .ok (.putfield 32, 3) := by decide +kernel
theorem dX6_readCommand_8 : decode cX6_readCommand 8 = .ok (.aload_n 0, 1) := by decide +kernel
theorem dX6_readCommand_9 : decode cX6_readCommand 9 = .ok (.dup, 1) := by decide +kernel
theorem dX6_readCommand_10 : decode cX6_readCommand 10 = .ok (.getfield 25, 3) := by decide +kernel
theorem dX6_readCommand_13 : decode cX6_readCommand 13 = .ok (.iconst 1, 1) := by decide +kernel
theorem dX6_readCommand_14 : decode cX6_readCommand 14 = .ok (.iadd, 1) := by decide +kernel
theorem dX6_readCommand_15 : decode cX6_readCommand 15 = .ok (.putfield 25, 3) := by decide +kernel
theorem dX6_readCommand_18 : decode cX6_readCommand 18 = .ok (.aload_n 0, 1) := by decide +kernel
theorem dX6_readCommand_19 : decode cX6_readCommand 19 = .ok (.getfield 32, 3) := by decide +kernel
theorem dX6_readCommand_22 : decode cX6_readCommand 22 = .ok (.lookupswitch 117 #[(103, 50), (104, 110), (114, 50), (115, 72), (122, 110)], 50) := by decide +kernel
theorem dX6_readCommand_72 : decode cX6_readCommand 72 = .ok (.aload_n 0, 1) := by decide +kernel
theorem dX6_readCommand_73 : decode cX6_readCommand 73 = .ok (.invokevirtual 35, 3) := by decide +kernel
theorem dX6_readCommand_76 : decode cX6_readCommand 76 = .ok (.ifCond .eq 16, 3) := by decide +kernel
theorem dX6_readCommand_79 : decode cX6_readCommand 79 = .ok (.aload_n 0, 1) := by decide +kernel
theorem dX6_readCommand_80 : decode cX6_readCommand 80 = .ok (.bipush 59, 2) := by decide +kernel
theorem dX6_readCommand_82 : decode cX6_readCommand 82 = .ok (.invokevirtual 39, 3) := by decide +kernel
theorem dX6_readCommand_85 : decode cX6_readCommand 85 = .ok (.ifCond .eq 7, 3) := by decide +kernel
theorem dX6_readCommand_88 : decode cX6_readCommand 88 = .ok (.iconst 1, 1) := by decide +kernel
theorem dX6_readCommand_89 : decode cX6_readCommand 89 = .ok (.goto 4, 3) := by decide +kernel
theorem dX6_readCommand_92 : decode cX6_readCommand 92 = .ok (.iconst 0, 1) := by decide +kernel
theorem dX6_readCommand_93 : decode cX6_readCommand 93 = .ok (.ireturn, 1) := by decide +kernel
theorem dX6_readCommand_94 : decode cX6_readCommand 94 = .ok (.aload_n 0, 1) := by decide +kernel
theorem dX6_readCommand_95 : decode cX6_readCommand 95 = .ok (.invokevirtual 43, 3) := by decide +kernel
theorem dX6_readCommand_98 : decode cX6_readCommand 98 = .ok (.ifCond .eq 32, 3) := by decide +kernel
theorem dX6_readCommand_101 : decode cX6_readCommand 101 = .ok (.aload_n 0, 1) := by decide +kernel
theorem dX6_readCommand_102 : decode cX6_readCommand 102 = .ok (.bipush 44, 2) := by decide +kernel
theorem dX6_readCommand_104 : decode cX6_readCommand 104 = .ok (.invokevirtual 39, 3) := by decide +kernel
theorem dX6_readCommand_107 : decode cX6_readCommand 107 = .ok (.ifCond .eq 23, 3) := by decide +kernel
theorem dX6_readCommand_110 : decode cX6_readCommand 110 = .ok (.aload_n 0, 1) := by decide +kernel
theorem dX6_readCommand_111 : decode cX6_readCommand 111 = .ok (.invokevirtual 35, 3) := by decide +kernel
theorem dX6_readCommand_114 : decode cX6_readCommand 114 = .ok (.ifCond .eq 16, 3) := by decide +kernel
theorem dX6_readCommand_117 : decode cX6_readCommand 117 = .ok (.aload_n 0, 1) := by decide +kernel
theorem dX6_readCommand_118 : decode cX6_readCommand 118 = .ok (.bipush 59, 2) := by decide +kernel
theorem dX6_readCommand_120 : decode cX6_readCommand 120 = .ok (.invokevirtual 39, 3) := by decide +kernel
theorem dX6_readCommand_123 : decode cX6_readCommand 123 = .ok (.ifCond .eq 7, 3) := by decide +kernel
theorem dX6_readCommand_126 : decode cX6_readCommand 126 = .ok (.iconst 1, 1) := by decide +kernel
theorem dX6_readCommand_127 : decode cX6_readCommand 127 = .ok (.goto 4, 3) := by decide +kernel
theorem dX6_readCommand_130 : decode cX6_readCommand 130 = .ok (.iconst 0, 1) := by decide +kernel
theorem dX6_readCommand_131 : decode cX6_readCommand 131 = .ok (.ireturn, 1) := by decide +kernel
theorem dX6_readCommand_132 : decode cX6_readCommand 132 = .ok (.aload_n 0, 1) := by decide +kernel
theorem dX6_readCommand_133 : decode cX6_readCommand 133 = .ok (.bipush 59, 2) := by decide +kernel
theorem dX6_readCommand_135 : decode cX6_readCommand 135 = .ok (.invokevirtual 39, 3) := by decide +kernel
theorem dX6_readCommand_138 : decode cX6_readCommand 138 = .ok (.ireturn, 1) := by decide +kernel
theorem dX6_readCommand_139 : decode cX6_readCommand 139 = .ok (.iconst 0, 1) := by decide +kernel
theorem dX6_readCommand_140 : decode cX6_readCommand 140 = .ok (.ireturn, 1) := by decide +kernel
set_option maxRecDepth 20000 in
theorem ggX6_readSetting_X6_readDigits : GoodIn wsX6_readSetting wsX6_readDigits := goodIn_r _ [7, 1, 8, 9, 10, 11, 6, 12, 13, 14, 15, 16, 17, 18, 19, 20, 21, 22, 23] (by decide +kernel) (by decide +kernel)
set_option maxRecDepth 20000 in
theorem gX6_readSetting_X6_readDigits : GoodIn wsX6_readSetting (wsV RX6 46 RX6 yX6_readDigits wsX6_readDigits) := goodIn_app (goodIn_of _ (by decide +kernel)) ggX6_readSetting_X6_readDigits
theorem dX6_readSetting_0 : decode cX6_readSetting 0 = .ok (.aload_n 0, 1) := by decide +kernel
theorem dX6_readSetting_1 : decode cX6_readSetting 1 = .ok (.invokevirtual 46, 3) := by decide +kernel
theorem dX6_readSetting_4 : decode cX6_readSetting 4 = .ok (.istore_n 1, 1) := by decide +kernel
theorem dX6_readSetting_5 : decode cX6_readSetting 5 = .ok (.aload_n 0, 1) := by decide +kernel
theorem dX6_readSetting_6 : decode cX6_readSetting 6 = .ok (.aload_n 0, 1) := by decide +kernel
theorem dX6_readSetting_7 : decode cX6_readSetting 7 = .ok (.getfield 49, 3) := by decide +kernel
theorem dX6_readSetting_10 : decode cX6_readSetting 10 = .ok (.putfield 52, 3) := by decide +kernel
theorem dX6_readSetting_13 : decode cX6_readSetting 13 = .ok (.iload_n 1, 1) := by decide +kernel
theorem dX6_readSetting_14 : decode cX6_readSetting 14 = .ok (.ireturn, 1) := by decide +kernel
set_option maxRecDepth 20000 in
theorem ggX6_readSigned_X6_skip : GoodIn wsX6_readSigned wsX6_skip := goodIn_r _ [6, 7, 8, 9, 10, 5, 11, 12, 13, 21, 22, 23, 24, 25, 26] (by decide +kernel) (by decide +kernel)
set_option maxRecDepth 20000 in
theorem gX6_readSigned_X6_skip : GoodIn wsX6_readSigned (wsV RX6 39 RX6 yX6_skip wsX6_skip) := goodIn_app (goodIn_of _ (by decide +kernel)) ggX6_readSigned_X6_skip
set_option maxRecDepth 20000 in
theorem ggX6_readSigned_X6_readDigits : GoodIn wsX6_readSigned wsX6_readDigits := goodIn_r _ [17, 1, 7, 8, 9, 10, 5, 11, 12, 13, 18, 19, 20, 21, 22, 23, 24, 25, 26] (by decide +kernel) (by decide +kernel)
set_option maxRecDepth 20000 in
theorem gX6_readSigned_X6_readDigits : GoodIn wsX6_readSigned (wsV RX6 46 RX6 yX6_readDigits wsX6_readDigits) := goodIn_app (goodIn_of _ (by decide +kernel)) ggX6_readSigned_X6_readDigits
theorem dX6_readSigned_0 : decode cX6_readSigned 0 = .ok (.aload_n 0, 1) := by decide +kernel
theorem dX6_readSigned_1 : decode cX6_readSigned 1 = .ok (.bipush 45, 2) := by decide +kernel
theorem dX6_readSigned_3 : decode cX6_readSigned 3 = .ok (.invokevirtual 39, 3) := by decide +kernel
theorem dX6_readSigned_6 : decode cX6_readSigned 6 = .ok (.istore_n 1, 1) := by decide +kernel
theorem dX6_readSigned_7 : decode cX6_readSigned 7 = .ok (.aload_n 0, 1) := by decide +kernel
theorem dX6_readSigned_8 : decode cX6_readSigned 8 = .ok (.invokevirtual 46, 3) := by decide +kernel
theorem dX6_readSigned_11 : decode cX6_readSigned 11 = .ok (.istore_n 2, 1) := by decide +kernel
theorem dX6_readSigned_12 : decode cX6_readSigned 12 = .ok (.iload_n 1, 1) := by decide +kernel
theorem dX6_readSigned_13 : decode cX6_readSigned 13 = .ok (.ifCond .eq 12, 3) := by decide +kernel
theorem dX6_readSigned_16 : decode cX6_readSigned 16 = .ok (.aload_n 0, 1) := by decide +kernel
theorem dX6_readSigned_17 : decode cX6_readSigned 17 = .ok (.aload_n 0, 1) := by decide +kernel
theorem dX6_readSigned_18 : decode cX6_readSigned 18 = .ok (.getfield 49, 3) := by decide +kernel
theorem dX6_readSigned_21 : decode cX6_readSigned 21 = .ok (.ineg, 1) := by decide +kernel
theorem dX6_readSigned_22 : decode cX6_readSigned 22 = .ok (.putfield 49, 3) := by decide +kernel
theorem dX6_readSigned_25 : decode cX6_readSigned 25 = .ok (.iload_n 2, 1) := by decide +kernel
theorem dX6_readSigned_26 : decode cX6_readSigned 26 = .ok (.ireturn, 1) := by decide +kernel
set_option maxRecDepth 20000 in
theorem ggX6_readDigits_X6_sign : GoodIn wsX6_readDigits wsX6_sign := goodIn_r _ [7, 2, 8, 9, 13, 14, 15, 16, 17, 18] (by decide +kernel) (by decide +kernel)
set_option maxRecDepth 20000 in
theorem gX6_readDigits_X6_sign : GoodIn wsX6_readDigits (wsV RX6 28 RX6 yX6_sign wsX6_sign) := goodIn_app (goodIn_of _ (by decide +kernel)) ggX6_readDigits_X6_sign
set_option maxRecDepth 20000 in
theorem ggX6_readDigits_X8_within : GoodIn wsX6_readDigits wsX8_within := goodIn_r _ [12] (by decide +kernel) (by decide +kernel)
set_option maxRecDepth 20000 in
theorem gX6_readDigits_X8_within_n15 : GoodIn wsX6_readDigits (wsX8_within) := ggX6_readDigits_X8_within
theorem dX6_readDigits_0 : decode cX6_readDigits 0 = .ok (.aload_n 0, 1) := by decide +kernel
theorem dX6_readDigits_1 : decode cX6_readDigits 1 = .ok (.iconst 0, 1) := by decide +kernel
theorem dX6_readDigits_2 : decode cX6_readDigits 2 = .ok (.putfield 49, 3) := by decide +kernel
theorem dX6_readDigits_5 : decode cX6_readDigits 5 = .ok (.iconst 0, 1) := by decide +kernel
theorem dX6_readDigits_6 : decode cX6_readDigits 6 = .ok (.istore_n 1, 1) := by decide +kernel
theorem dX6_readDigits_7 : decode cX6_readDigits 7 = .ok (.iload_n 1, 1) := by decide +kernel
theorem dX6_readDigits_8 : decode cX6_readDigits 8 = .ok (.iconst 4, 1) := by decide +kernel
theorem dX6_readDigits_9 : decode cX6_readDigits 9 = .ok (.if_icmp .ge 52, 3) := by decide +kernel
theorem dX6_readDigits_12 : decode cX6_readDigits 12 = .ok (.aload_n 0, 1) := by decide +kernel
theorem dX6_readDigits_13 : decode cX6_readDigits 13 = .ok (.invokevirtual 28, 3) := by decide +kernel
theorem dX6_readDigits_16 : decode cX6_readDigits 16 = .ok (.bipush 48, 2) := by decide +kernel
theorem dX6_readDigits_18 : decode cX6_readDigits 18 = .ok (.bipush 57, 2) := by decide +kernel
theorem dX6_readDigits_20 : decode cX6_readDigits 20 = .ok (.invokestatic 15, 3) := by decide +kernel
theorem dX6_readDigits_23 : decode cX6_readDigits 23 = .ok (.ifCond .eq 38, 3) := by decide +kernel
theorem dX6_readDigits_26 : decode cX6_readDigits 26 = .ok (.aload_n 0, 1) := by decide +kernel
theorem dX6_readDigits_27 : decode cX6_readDigits 27 = .ok (.bipush 10, 2) := by decide +kernel
theorem dX6_readDigits_29 : decode cX6_readDigits 29 = .ok (.aload_n 0, 1) := by decide +kernel
theorem dX6_readDigits_30 : decode cX6_readDigits 30 = .ok (.getfield 49, 3) := by decide +kernel
theorem dX6_readDigits_33 : decode cX6_readDigits 33 = .ok (.imul, 1) := by decide +kernel
theorem dX6_readDigits_34 : decode cX6_readDigits 34 = .ok (.aload_n 0, 1) := by decide +kernel
theorem dX6_readDigits_35 : decode cX6_readDigits 35 = .ok (.invokevirtual 28, 3) := by decide +kernel
theorem dX6_readDigits_38 : decode cX6_readDigits 38 = .ok (.bipush 48, 2) := by decide +kernel
theorem dX6_readDigits_40 : decode cX6_readDigits 40 = .ok (.isub, 1) := by decide +kernel
theorem dX6_readDigits_41 : decode cX6_readDigits 41 = .ok (.iadd, 1) := by decide +kernel
theorem dX6_readDigits_42 : decode cX6_readDigits 42 = .ok (.putfield 49, 3) := by decide +kernel
theorem dX6_readDigits_45 : decode cX6_readDigits 45 = .ok (.aload_n 0, 1) := by decide +kernel
theorem dX6_readDigits_46 : decode cX6_readDigits 46 = .ok (.dup, 1) := by decide +kernel
theorem dX6_readDigits_47 : decode cX6_readDigits 47 = .ok (.getfield 25, 3) := by decide +kernel
theorem dX6_readDigits_50 : decode cX6_readDigits 50 = .ok (.iconst 1, 1) := by decide +kernel
theorem dX6_readDigits_51 : decode cX6_readDigits 51 = .ok (.iadd, 1) := by decide +kernel
theorem dX6_readDigits_52 : decode cX6_readDigits 52 = .ok (.putfield 25, 3) := by decide +kernel
theorem dX6_readDigits_55 : decode cX6_readDigits 55 = .ok (.iinc 1 1, 3) := by decide +kernel
theorem dX6_readDigits_58 : decode cX6_readDigits 58 = .ok (.goto (-51), 3) := by decide +kernel
theorem dX6_readDigits_61 : decode cX6_readDigits 61 = .ok (.iload_n 1, 1) := by decide +kernel
theorem dX6_readDigits_62 : decode cX6_readDigits 62 = .ok (.ifCond .le 7, 3) := by decide +kernel
theorem dX6_readDigits_65 : decode cX6_readDigits 65 = .ok (.iconst 1, 1) := by decide +kernel
theorem dX6_readDigits_66 : decode cX6_readDigits 66 = .ok (.goto 4, 3) := by decide +kernel
theorem dX6_readDigits_69 : decode cX6_readDigits 69 = .ok (.iconst 0, 1) := by decide +kernel
theorem dX6_readDigits_70 : decode cX6_readDigits 70 = .ok (.ireturn, 1) := by decide +kernel
set_option maxRecDepth 20000 in
theorem ggX6_skip_X6_sign : GoodIn wsX6_skip wsX6_sign := goodIn_r _ [6, 1, 7, 8, 9, 10, 11, 12, 13, 14] (by decide +kernel) (by decide +kernel)
set_option maxRecDepth 20000 in
theorem gX6_skip_X6_sign : GoodIn wsX6_skip (wsV RX6 28 RX6 yX6_sign wsX6_sign) := goodIn_app (goodIn_of _ (by decide +kernel)) ggX6_skip_X6_sign
theorem dX6_skip_0 : decode cX6_skip 0 = .ok (.aload_n 0, 1) := by decide +kernel
theorem dX6_skip_1 : decode cX6_skip 1 = .ok (.invokevirtual 28, 3) := by decide +kernel
theorem dX6_skip_4 : decode cX6_skip 4 = .ok (.iload_n 1, 1) := by decide +kernel
theorem dX6_skip_5 : decode cX6_skip 5 = .ok (.if_icmp .eq 5, 3) := by decide +kernel
theorem dX6_skip_8 : decode cX6_skip 8 = .ok (.iconst 0, 1) := by decide +kernel
theorem dX6_skip_9 : decode cX6_skip 9 = .ok (.ireturn, 1) := by decide +kernel
theorem dX6_skip_10 : decode cX6_skip 10 = .ok (.aload_n 0, 1) := by decide +kernel
theorem dX6_skip_11 : decode cX6_skip 11 = .ok (.dup, 1) := by decide +kernel
theorem dX6_skip_12 : decode cX6_skip 12 = .ok (.getfield 25, 3) := by decide +kernel
theorem dX6_skip_15 : decode cX6_skip 15 = .ok (.iconst 1, 1) := by decide +kernel
theorem dX6_skip_16 : decode cX6_skip 16 = .ok (.iadd, 1) := by decide +kernel
theorem dX6_skip_17 : decode cX6_skip 17 = .ok (.putfield 25, 3) := by decide +kernel
theorem dX6_skip_20 : decode cX6_skip 20 = .ok (.iconst 1, 1) := by decide +kernel
theorem dX6_skip_21 : decode cX6_skip 21 = .ok (.ireturn, 1) := by decide +kernel
theorem dX6_sign_0 : decode cX6_sign 0 = .ok (.aload_n 0, 1) := by decide +kernel
theorem dX6_sign_1 : decode cX6_sign 1 = .ok (.getfield 25, 3) := by decide +kernel
theorem dX6_sign_4 : decode cX6_sign 4 = .ok (.ifCond .lt 35, 3) := by decide +kernel
theorem dX6_sign_7 : decode cX6_sign 7 = .ok (.aload_n 0, 1) := by decide +kernel
theorem dX6_sign_8 : decode cX6_sign 8 = .ok (.getfield 25, 3) := by decide +kernel
theorem dX6_sign_11 : decode cX6_sign 11 = .ok (.aload_n 0, 1) := by decide +kernel
theorem dX6_sign_12 : decode cX6_sign 12 = .ok (.getfield 20, 3) := by decide +kernel
theorem dX6_sign_15 : decode cX6_sign 15 = .ok (.if_icmp .ge 24, 3) := by decide +kernel
theorem dX6_sign_18 : decode cX6_sign 18 = .ok (.aload_n 0, 1) := by decide +kernel
theorem dX6_sign_19 : decode cX6_sign 19 = .ok (.getfield 25, 3) := by decide +kernel
theorem dX6_sign_22 : decode cX6_sign 22 = .ok (.bipush 60, 2) := by decide +kernel
theorem dX6_sign_24 : decode cX6_sign 24 = .ok (.if_icmp .ge 15, 3) := by decide +kernel
theorem dX6_sign_27 : decode cX6_sign 27 = .ok (.aload_n 0, 1) := by decide +kernel
theorem dX6_sign_28 : decode cX6_sign 28 = .ok (.getfield 9, 3) := by decide +kernel
theorem dX6_sign_31 : decode cX6_sign 31 = .ok (.aload_n 0, 1) := by decide +kernel
theorem dX6_sign_32 : decode cX6_sign 32 = .ok (.getfield 25, 3) := by decide +kernel
theorem dX6_sign_35 : decode cX6_sign 35 = .ok (.caload, 1) := by decide +kernel
theorem dX6_sign_36 : decode cX6_sign 36 = .ok (.goto 4, 3) := by decide +kernel
theorem dX6_sign_39 : decode cX6_sign 39 = .ok (.iconst 0, 1) := by decide +kernel
theorem dX6_sign_40 : decode cX6_sign 40 = .ok (.ireturn, 1) := by decide +kernel
set_option maxRecDepth 20000 in
theorem ggX7_init_X2_init : GoodIn wsX7_init wsX2_init := goodIn_r _ [22, 23, 2, 3, 24, 25, 26, 27, 45, 46, 47, 48] (by decide +kernel) (by decide +kernel)
set_option maxRecDepth 20000 in
theorem gX7_init_X2_init_n25 : GoodIn wsX7_init (wsX2_init) := ggX7_init_X2_init
set_option maxRecDepth 20000 in
theorem ggX7_init_X3_init : GoodIn wsX7_init wsX3_init := goodIn_r _ [29, 30, 2, 3, 24, 31, 49, 50] (by decide +kernel) (by decide +kernel)
set_option maxRecDepth 20000 in
theorem gX7_init_X3_init_n32 : GoodIn wsX7_init (wsX3_init) := ggX7_init_X3_init
theorem dX7_init_0 : decode cX7_init 0 = .ok (.aload_n 0, 1) := by decide +kernel
theorem dX7_init_1 : decode cX7_init 1 = .ok (.invokespecial 3, 3) := by decide +kernel
theorem dX7_init_4 : decode cX7_init 4 = .ok (.aload_n 0, 1) := by decide +kernel
theorem dX7_init_5 : decode cX7_init 5 = .ok (.getstatic 9, 3) := by decide +kernel
theorem dX7_init_8 : decode cX7_init 8 = .ok (.invokevirtual 13, 3) := by decide +kernel
theorem dX7_init_11 : decode cX7_init 11 = .ok (.checkcast 14, 3) := by decide +kernel
theorem dX7_init_14 : decode cX7_init 14 = .ok (.putfield 18, 3) := by decide +kernel
theorem dX7_init_17 : decode cX7_init 17 = .ok (.aload_n 0, 1) := by decide +kernel
theorem dX7_init_18 : decode cX7_init 18 = .ok (.new 23, 3) := by decide +kernel
theorem dX7_init_21 : decode cX7_init 21 = .ok (.dup, 1) := by decide +kernel
theorem dX7_init_22 : decode cX7_init 22 = .ok (.invokespecial 25, 3) := by decide +kernel
theorem dX7_init_25 : decode cX7_init 25 = .ok (.putfield 26, 3) := by decide +kernel
theorem dX7_init_28 : decode cX7_init 28 = .ok (.aload_n 0, 1) := by decide +kernel
theorem dX7_init_29 : decode cX7_init 29 = .ok (.new 30, 3) := by decide +kernel
theorem dX7_init_32 : decode cX7_init 32 = .ok (.dup, 1) := by decide +kernel
theorem dX7_init_33 : decode cX7_init 33 = .ok (.invokespecial 32, 3) := by decide +kernel
theorem dX7_init_36 : decode cX7_init 36 = .ok (.putfield 33, 3) := by decide +kernel
theorem dX7_init_39 : decode cX7_init 39 = .ok (.aload_n 0, 1) := by decide +kernel
theorem dX7_init_40 : decode cX7_init 40 = .ok (.sipush (-1000), 3) := by decide +kernel
theorem dX7_init_43 : decode cX7_init 43 = .ok (.putfield 37, 3) := by decide +kernel
theorem dX7_init_46 : decode cX7_init 46 = .ok (.aload_n 0, 1) := by decide +kernel
theorem dX7_init_47 : decode cX7_init 47 = .ok (.sipush 1000, 3) := by decide +kernel
theorem dX7_init_50 : decode cX7_init 50 = .ok (.putfield 41, 3) := by decide +kernel
theorem dX7_init_53 : decode cX7_init 53 = .ok (.return_, 1) := by decide +kernel
set_option maxRecDepth 20000 in
theorem ggX7_putSetting_X8_within : GoodIn wsX7_putSetting wsX8_within := goodIn_r _ [5] (by decide +kernel) (by decide +kernel)
set_option maxRecDepth 20000 in
theorem gX7_putSetting_X8_within_n44 : GoodIn wsX7_putSetting (wsX8_within) := ggX7_putSetting_X8_within
theorem dX7_putSetting_0 : decode cX7_putSetting 0 = .ok (.iload_n 1, 1) := by decide +kernel
theorem dX7_putSetting_1 : decode cX7_putSetting 1 = .ok (.iconst 0, 1) := by decide +kernel
theorem dX7_putSetting_2 : decode cX7_putSetting 2 = .ok (.bipush 7, 2) := by decide +kernel
theorem dX7_putSetting_4 : decode cX7_putSetting 4 = .ok (.invokestatic 44, 3) := by decide +kernel
theorem dX7_putSetting_7 : decode cX7_putSetting 7 = .ok (.ifCond .eq 20, 3) := by decide +kernel
theorem dX7_putSetting_10 : decode cX7_putSetting 10 = .ok (.iload_n 2, 1) := by decide +kernel
theorem dX7_putSetting_11 : decode cX7_putSetting 11 = .ok (.getstatic 48, 3) := by decide +kernel
theorem dX7_putSetting_14 : decode cX7_putSetting 14 = .ok (.iload_n 1, 1) := by decide +kernel
theorem dX7_putSetting_15 : decode cX7_putSetting 15 = .ok (.iaload, 1) := by decide +kernel
theorem dX7_putSetting_16 : decode cX7_putSetting 16 = .ok (.getstatic 51, 3) := by decide +kernel
theorem dX7_putSetting_19 : decode cX7_putSetting 19 = .ok (.iload_n 1, 1) := by decide +kernel
theorem dX7_putSetting_20 : decode cX7_putSetting 20 = .ok (.iaload, 1) := by decide +kernel
theorem dX7_putSetting_21 : decode cX7_putSetting 21 = .ok (.invokestatic 44, 3) := by decide +kernel
theorem dX7_putSetting_24 : decode cX7_putSetting 24 = .ok (.ifCond .ne 6, 3) := by decide +kernel
theorem dX7_putSetting_27 : decode cX7_putSetting 27 = .ok (.ldc 54, 2) := by decide +kernel
theorem dX7_putSetting_29 : decode cX7_putSetting 29 = .ok (.ireturn, 1) := by decide +kernel
theorem dX7_putSetting_30 : decode cX7_putSetting 30 = .ok (.aload_n 0, 1) := by decide +kernel
theorem dX7_putSetting_31 : decode cX7_putSetting 31 = .ok (.getfield 18, 3) := by decide +kernel
theorem dX7_putSetting_34 : decode cX7_putSetting 34 = .ok (.iload_n 1, 1) := by decide +kernel
theorem dX7_putSetting_35 : decode cX7_putSetting 35 = .ok (.iaload, 1) := by decide +kernel
theorem dX7_putSetting_36 : decode cX7_putSetting 36 = .ok (.istore_n 3, 1) := by decide +kernel
theorem dX7_putSetting_37 : decode cX7_putSetting 37 = .ok (.aload_n 0, 1) := by decide +kernel
theorem dX7_putSetting_38 : decode cX7_putSetting 38 = .ok (.getfield 18, 3) := by decide +kernel
theorem dX7_putSetting_41 : decode cX7_putSetting 41 = .ok (.iload_n 1, 1) := by decide +kernel
theorem dX7_putSetting_42 : decode cX7_putSetting 42 = .ok (.iload_n 2, 1) := by decide +kernel
theorem dX7_putSetting_43 : decode cX7_putSetting 43 = .ok (.iastore, 1) := by decide +kernel
theorem dX7_putSetting_44 : decode cX7_putSetting 44 = .ok (.iload_n 3, 1) := by decide +kernel
theorem dX7_putSetting_45 : decode cX7_putSetting 45 = .ok (.ireturn, 1) := by decide +kernel
set_option maxRecDepth 20000 in
theorem ggX7_putLimits_X8_within : GoodIn wsX7_putLimits wsX8_within := goodIn_r _ [7] (by decide +kernel) (by decide +kernel)
set_option maxRecDepth 20000 in
theorem gX7_putLimits_X8_within_n44 : GoodIn wsX7_putLimits (wsX8_within) := ggX7_putLimits_X8_within
theorem dX7_putLimits_0 : decode cX7_putLimits 0 = .ok (.iload_n 1, 1) := by decide +kernel
theorem dX7_putLimits_1 : decode cX7_putLimits 1 = .ok (.sipush (-2000), 3) := by decide +kernel
theorem dX7_putLimits_4 : decode cX7_putLimits 4 = .ok (.sipush 2000, 3) := by decide +kernel
theorem dX7_putLimits_7 : decode cX7_putLimits 7 = .ok (.invokestatic 44, 3) := by decide +kernel
theorem dX7_putLimits_10 : decode cX7_putLimits 10 = .ok (.ifCond .eq 14, 3) := by decide +kernel
theorem dX7_putLimits_13 : decode cX7_putLimits 13 = .ok (.iload_n 2, 1) := by decide +kernel
theorem dX7_putLimits_14 : decode cX7_putLimits 14 = .ok (.iload_n 1, 1) := by decide +kernel
theorem dX7_putLimits_15 : decode cX7_putLimits 15 = .ok (.sipush 2000, 3) := by decide +kernel
theorem dX7_putLimits_18 : decode cX7_putLimits 18 = .ok (.invokestatic 44, 3) := by decide +kernel
theorem dX7_putLimits_21 : decode cX7_putLimits 21 = .ok (.ifCond .ne 6, 3) := by decide +kernel
theorem dX7_putLimits_24 : decode cX7_putLimits 24 = .ok (.ldc 54, 2) := by decide +kernel
theorem dX7_putLimits_26 : decode cX7_putLimits 26 = .ok (.ireturn, 1) := by decide +kernel
theorem dX7_putLimits_27 : decode cX7_putLimits 27 = .ok (.aload_n 0, 1) := by decide +kernel
theorem dX7_putLimits_28 : decode cX7_putLimits 28 = .ok (.iload_n 1, 1) := by decide +kernel
theorem dX7_putLimits_29 : decode cX7_putLimits 29 = .ok (.putfield 37, 3) := by decide +kernel
theorem dX7_putLimits_32 : decode cX7_putLimits 32 = .ok (.aload_n 0, 1) := by decide +kernel
theorem dX7_putLimits_33 : decode cX7_putLimits 33 = .ok (.iload_n 2, 1) := by decide +kernel
theorem dX7_putLimits_34 : decode cX7_putLimits 34 = .ok (.putfield 41, 3) := by decide +kernel
theorem dX7_putLimits_37 : decode cX7_putLimits 37 = .ok (.aload_n 0, 1) := by decide +kernel
theorem dX7_putLimits_38 : decode cX7_putLimits 38 = .ok (.getfield 55, 3) := by decide +kernel
theorem dX7_putLimits_41 : decode cX7_putLimits 41 = .ok (.iload_n 1, 1) := by decide +kernel
theorem dX7_putLimits_42 : decode cX7_putLimits 42 = .ok (.iload_n 2, 1) := by decide +kernel
theorem dX7_putLimits_43 : decode cX7_putLimits 43 = .ok (.invokestatic 44, 3) := by decide +kernel
theorem dX7_putLimits_46 : decode cX7_putLimits 46 = .ok (.ifCond .eq 7, 3) := by decide +kernel
theorem dX7_putLimits_49 : decode cX7_putLimits 49 = .ok (.iconst 1, 1) := by decide +kernel
theorem dX7_putLimits_50 : decode cX7_putLimits 50 = .ok (.goto 4, 3) := by decide +kernel
theorem dX7_putLimits_53 : decode cX7_putLimits 53 = .ok (.iconst 0, 1) := by decide +kernel
theorem dX7_putLimits_54 : decode cX7_putLimits 54 = .ok (.ireturn, 1) := by decide +kernel
set_option maxRecDepth 20000 in
theorem ggX7_takeStep_X8_isBeyondEnd : GoodIn wsX7_takeStep wsX8_isBeyondEnd := goodIn_r _ [10] (by decide +kernel) (by decide +kernel)
set_option maxRecDepth 20000 in
theorem gX7_takeStep_X8_isBeyondEnd_n61 : GoodIn wsX7_takeStep (wsX8_isBeyondEnd) := ggX7_takeStep_X8_isBeyondEnd
set_option maxRecDepth 20000 in
theorem ggX7_takeStep_X2_weightAt : GoodIn wsX7_takeStep wsX2_weightAt := goodIn_r _ [15, 16, 17, 18, 19, 40, 41, 42, 43] (by decide +kernel) (by decide +kernel)
set_option maxRecDepth 20000 in
theorem gX7_takeStep_X2_weightAt : GoodIn wsX7_takeStep (wsV RX7 65 RX2 yX2_weightAt wsX2_weightAt) := goodIn_app (goodIn_of _ (by decide +kernel)) ggX7_takeStep_X2_weightAt
set_option maxRecDepth 20000 in
theorem ggX7_takeStep_X7_moveSwitch : GoodIn wsX7_takeStep wsX7_moveSwitch := goodIn_r _ [24, 1, 25, 26, 27, 28, 29, 30, 31, 32, 33, 34, 35, 36, 37, 38, 39] (by decide +kernel) (by decide +kernel)
set_option maxRecDepth 20000 in
theorem gX7_takeStep_X7_moveSwitch : GoodIn wsX7_takeStep (wsV RX7 79 RX7 yX7_moveSwitch wsX7_moveSwitch) := goodIn_app (goodIn_of _ (by decide +kernel)) ggX7_takeStep_X7_moveSwitch
theorem dX7_takeStep_0 : decode cX7_takeStep 0 = .ok (.aload_n 0, 1) := by decide +kernel
theorem dX7_takeStep_1 : decode cX7_takeStep 1 = .ok (.getfield 58, 3) := by decide +kernel
theorem dX7_takeStep_4 : decode cX7_takeStep 4 = .ok (.iload_n 1, 1) := by decide +kernel
theorem dX7_takeStep_5 : decode cX7_takeStep 5 = .ok (.iadd, 1) := by decide +kernel
theorem dX7_takeStep_6 : decode cX7_takeStep 6 = .ok (.istore 4, 2) := by decide +kernel
theorem dX7_takeStep_8 : decode cX7_takeStep 8 = .ok (.aload_n 0, 1) := by decide +kernel
theorem dX7_takeStep_9 : decode cX7_takeStep 9 = .ok (.dup, 1) := by decide +kernel
theorem dX7_takeStep_10 : decode cX7_takeStep 10 = .ok (.getfield 55, 3) := by decide +kernel
theorem dX7_takeStep_13 : decode cX7_takeStep 13 = .ok (.iload_n 1, 1) := by decide +kernel
theorem dX7_takeStep_14 : decode cX7_takeStep 14 = .ok (.iadd, 1) := by decide +kernel
theorem dX7_takeStep_15 : decode cX7_takeStep 15 = .ok (.putfield 55, 3) := by decide +kernel
theorem dX7_takeStep_18 : decode cX7_takeStep 18 = .ok (.iload 4, 2) := by decide +kernel
theorem dX7_takeStep_20 : decode cX7_takeStep 20 = .ok (.invokestatic 61, 3) := by decide +kernel
theorem dX7_takeStep_23 : decode cX7_takeStep 23 = .ok (.ifCond .ne 18, 3) := by decide +kernel
theorem dX7_takeStep_26 : decode cX7_takeStep 26 = .ok (.aload_n 0, 1) := by decide +kernel
theorem dX7_takeStep_27 : decode cX7_takeStep 27 = .ok (.getfield 26, 3) := by decide +kernel
theorem dX7_takeStep_30 : decode cX7_takeStep 30 = .ok (.aload_n 0, 1) := by decide +kernel
theorem dX7_takeStep_31 : decode cX7_takeStep 31 = .ok (.getfield 58, 3) := by decide +kernel
theorem dX7_takeStep_34 : decode cX7_takeStep 34 = .ok (.invokevirtual 65, 3) := by decide +kernel
theorem dX7_takeStep_37 : decode cX7_takeStep 37 = .ok (.iload_n 3, 1) := by decide +kernel
theorem dX7_takeStep_38 : decode cX7_takeStep 38 = .ok (.if_icmp .le 16, 3) := by decide +kernel
theorem dX7_takeStep_41 : decode cX7_takeStep 41 = .ok (.aload_n 0, 1) := by decide +kernel
theorem dX7_takeStep_42 : decode cX7_takeStep 42 = .ok (.dup, 1) := by decide +kernel
theorem dX7_takeStep_43 : decode cX7_takeStep 43 = .ok (.getfield 69, 3) := by decide +kernel
theorem dX7_takeStep_46 : decode cX7_takeStep 46 = .ok (.iconst 1, 1) := by decide +kernel
theorem dX7_takeStep_47 : decode cX7_takeStep 47 = .ok (.iadd, 1) := by decide +kernel
theorem dX7_takeStep_48 : decode cX7_takeStep 48 = .ok (.putfield 69, 3) := by decide +kernel
theorem dX7_takeStep_51 : decode cX7_takeStep 51 = .ok (.goto 9, 3) := by decide +kernel
theorem dX7_takeStep_54 : decode cX7_takeStep 54 = .ok (.aload_n 0, 1) := by decide +kernel
theorem dX7_takeStep_55 : decode cX7_takeStep 55 = .ok (.iload 4, 2) := by decide +kernel
theorem dX7_takeStep_57 : decode cX7_takeStep 57 = .ok (.putfield 58, 3) := by decide +kernel
theorem dX7_takeStep_60 : decode cX7_takeStep 60 = .ok (.aload_n 0, 1) := by decide +kernel
theorem dX7_takeStep_61 : decode cX7_takeStep 61 = .ok (.dup, 1) := by decide +kernel
theorem dX7_takeStep_62 : decode cX7_takeStep 62 = .ok (.getfield 72, 3) := by decide +kernel
theorem dX7_takeStep_65 : decode cX7_takeStep 65 = .ok (.iconst 1, 1) := by decide +kernel
theorem dX7_takeStep_66 : decode cX7_takeStep 66 = .ok (.iadd, 1) := by decide +kernel
theorem dX7_takeStep_67 : decode cX7_takeStep 67 = .ok (.putfield 72, 3) := by decide +kernel
theorem dX7_takeStep_70 : decode cX7_takeStep 70 = .ok (.aload_n 0, 1) := by decide +kernel
theorem dX7_takeStep_71 : decode cX7_takeStep 71 = .ok (.aload_n 0, 1) := by decide +kernel
theorem dX7_takeStep_72 : decode cX7_takeStep 72 = .ok (.getfield 75, 3) := by decide +kernel
theorem dX7_takeStep_75 : decode cX7_takeStep 75 = .ok (.iload_n 2, 1) := by decide +kernel
theorem dX7_takeStep_76 : decode cX7_takeStep 76 = .ok (.iadd, 1) := by decide +kernel
theorem dX7_takeStep_77 : decode cX7_takeStep 77 = .ok (.ldc 78, 2) := by decide +kernel
theorem dX7_takeStep_79 : decode cX7_takeStep 79 = .ok (.irem, 1) := by decide +kernel
theorem dX7_takeStep_80 : decode cX7_takeStep 80 = .ok (.putfield 75, 3) := by decide +kernel
theorem dX7_takeStep_83 : decode cX7_takeStep 83 = .ok (.aload_n 0, 1) := by decide +kernel
theorem dX7_takeStep_84 : decode cX7_takeStep 84 = .ok (.invokevirtual 79, 3) := by decide +kernel
theorem dX7_takeStep_87 : decode cX7_takeStep 87 = .ok (.return_, 1) := by decide +kernel
theorem dX7_moveSwitch_0 : decode cX7_moveSwitch 0 = .ok (.aload_n 0, 1) := by decide +kernel
theorem dX7_moveSwitch_1 : decode cX7_moveSwitch 1 = .ok (.getfield 58, 3) := by decide +kernel
theorem dX7_moveSwitch_4 : decode cX7_moveSwitch 4 = .ok (.aload_n 0, 1) := by decide +kernel
theorem dX7_moveSwitch_5 : decode cX7_moveSwitch 5 = .ok (.getfield 18, 3) := by decide +kernel
theorem dX7_moveSwitch_8 : decode cX7_moveSwitch 8 = .ok (.iconst 5, 1) := by decide +kernel
theorem dX7_moveSwitch_9 : decode cX7_moveSwitch 9 = .ok (.iaload, 1) := by decide +kernel
theorem dX7_moveSwitch_10 : decode cX7_moveSwitch 10 = .ok (.if_icmp .gt 11, 3) := by decide +kernel
theorem dX7_moveSwitch_13 : decode cX7_moveSwitch 13 = .ok (.aload_n 0, 1) := by decide +kernel
theorem dX7_moveSwitch_14 : decode cX7_moveSwitch 14 = .ok (.iconst 1, 1) := by decide +kernel
theorem dX7_moveSwitch_15 : decode cX7_moveSwitch 15 = .ok (.putfield 82, 3) := by decide +kernel
theorem dX7_moveSwitch_18 : decode cX7_moveSwitch 18 = .ok (.goto 29, 3) := by decide +kernel
theorem dX7_moveSwitch_21 : decode cX7_moveSwitch 21 = .ok (.aload_n 0, 1) := by decide +kernel
theorem dX7_moveSwitch_22 : decode cX7_moveSwitch 22 = .ok (.getfield 58, 3) := by decide +kernel
theorem dX7_moveSwitch_25 : decode cX7_moveSwitch 25 = .ok (.aload_n 0, 1) := by decide +kernel
theorem dX7_moveSwitch_26 : decode cX7_moveSwitch 26 = .ok (.getfield 18, 3) := by decide +kernel
theorem dX7_moveSwitch_29 : decode cX7_moveSwitch 29 = .ok (.iconst 5, 1) := by decide +kernel
theorem dX7_moveSwitch_30 : decode cX7_moveSwitch 30 = .ok (.iaload, 1) := by decide +kernel
theorem dX7_moveSwitch_31 : decode cX7_moveSwitch 31 = .ok (.aload_n 0, 1) := by decide +kernel
theorem dX7_moveSwitch_32 : decode cX7_moveSwitch 32 = .ok (.getfield 18, 3) := by decide +kernel
theorem dX7_moveSwitch_35 : decode cX7_moveSwitch 35 = .ok (.bipush 6, 2) := by decide +kernel
theorem dX7_moveSwitch_37 : decode cX7_moveSwitch 37 = .ok (.iaload, 1) := by decide +kernel
theorem dX7_moveSwitch_38 : decode cX7_moveSwitch 38 = .ok (.iadd, 1) := by decide +kernel
theorem dX7_moveSwitch_39 : decode cX7_moveSwitch 39 = .ok (.if_icmp .le 8, 3) := by decide +kernel
theorem dX7_moveSwitch_42 : decode cX7_moveSwitch 42 = .ok (.aload_n 0, 1) := by decide +kernel
theorem dX7_moveSwitch_43 : decode cX7_moveSwitch 43 = .ok (.iconst 0, 1) := by decide +kernel
theorem dX7_moveSwitch_44 : decode cX7_moveSwitch 44 = .ok (.putfield 82, 3) := by decide +kernel
theorem dX7_moveSwitch_47 : decode cX7_moveSwitch 47 = .ok (.return_, 1) := by decide +kernel
theorem dX7_becomeHomed_0 : decode cX7_becomeHomed 0 = .ok (.aload_n 0, 1) := by decide +kernel
theorem dX7_becomeHomed_1 : decode cX7_becomeHomed 1 = .ok (.iconst 0, 1) := by decide +kernel
theorem dX7_becomeHomed_2 : decode cX7_becomeHomed 2 = .ok (.putfield 55, 3) := by decide +kernel
theorem dX7_becomeHomed_5 : decode cX7_becomeHomed 5 = .ok (.aload_n 0, 1) := by decide +kernel
theorem dX7_becomeHomed_6 : decode cX7_becomeHomed 6 = .ok (.iconst 1, 1) := by decide +kernel
theorem dX7_becomeHomed_7 : decode cX7_becomeHomed 7 = .ok (.putfield 86, 3) := by decide +kernel
theorem dX7_becomeHomed_10 : decode cX7_becomeHomed 10 = .ok (.aload_n 0, 1) := by decide +kernel
theorem dX7_becomeHomed_11 : decode cX7_becomeHomed 11 = .ok (.aload_n 0, 1) := by decide +kernel
theorem dX7_becomeHomed_12 : decode cX7_becomeHomed 12 = .ok (.getfield 58, 3) := by decide +kernel
theorem dX7_becomeHomed_15 : decode cX7_becomeHomed 15 = .ok (.ineg, 1) := by decide +kernel
theorem dX7_becomeHomed_16 : decode cX7_becomeHomed 16 = .ok (.putfield 89, 3) := by decide +kernel
theorem dX7_becomeHomed_19 : decode cX7_becomeHomed 19 = .ok (.return_, 1) := by decide +kernel
set_option maxRecDepth 20000 in
theorem ggX7_copyFrom_X2_copyFrom : GoodIn wsX7_copyFrom wsX2_copyFrom := goodIn_r _ [22, 23, 24, 3, 4, 5, 25, 26, 27, 49, 50, 51, 52] (by decide +kernel) (by decide +kernel)
set_option maxRecDepth 20000 in
theorem gX7_copyFrom_X2_copyFrom : GoodIn wsX7_copyFrom (wsV RX7 98 RX2 yX2_copyFrom wsX2_copyFrom) := goodIn_app (goodIn_of _ (by decide +kernel)) ggX7_copyFrom_X2_copyFrom
set_option maxRecDepth 20000 in
theorem ggX7_copyFrom_X3_copyFrom : GoodIn wsX7_copyFrom wsX3_copyFrom := goodIn_r _ [32, 33, 34, 3, 4, 5, 35, 53, 54] (by decide +kernel) (by decide +kernel)
set_option maxRecDepth 20000 in
theorem gX7_copyFrom_X3_copyFrom : GoodIn wsX7_copyFrom (wsV RX7 102 RX3 yX3_copyFrom wsX3_copyFrom) := goodIn_app (goodIn_of _ (by decide +kernel)) ggX7_copyFrom_X3_copyFrom
theorem dX7_copyFrom_0 : decode cX7_copyFrom 0 = .ok (.aload_n 1, 1) := by decide +kernel
theorem dX7_copyFrom_1 : decode cX7_copyFrom 1 = .ok (.getfield 18, 3) := by decide +kernel
theorem dX7_copyFrom_4 : decode cX7_copyFrom 4 = .ok (.iconst 0, 1) := by decide +kernel
theorem dX7_copyFrom_5 : decode cX7_copyFrom 5 = .ok (.aload_n 0, 1) := by decide +kernel
theorem dX7_copyFrom_6 : decode cX7_copyFrom 6 = .ok (.getfield 18, 3) := by decide +kernel
theorem dX7_copyFrom_9 : decode cX7_copyFrom 9 = .ok (.iconst 0, 1) := by decide +kernel
theorem dX7_copyFrom_10 : decode cX7_copyFrom 10 = .ok (.bipush 8, 2) := by decide +kernel
theorem dX7_copyFrom_12 : decode cX7_copyFrom 12 = .ok (.invokestatic 92, 3) := by decide +kernel
theorem dX7_copyFrom_15 : decode cX7_copyFrom 15 = .ok (.aload_n 0, 1) := by decide +kernel
theorem dX7_copyFrom_16 : decode cX7_copyFrom 16 = .ok (.getfield 26, 3) := by decide +kernel
theorem dX7_copyFrom_19 : decode cX7_copyFrom 19 = .ok (.aload_n 1, 1) := by decide +kernel
theorem dX7_copyFrom_20 : decode cX7_copyFrom 20 = .ok (.getfield 26, 3) := by decide +kernel
theorem dX7_copyFrom_23 : decode cX7_copyFrom 23 = .ok (.invokevirtual 98, 3) := by decide +kernel
theorem dX7_copyFrom_26 : decode cX7_copyFrom 26 = .ok (.aload_n 0, 1) := by decide +kernel
theorem dX7_copyFrom_27 : decode cX7_copyFrom 27 = .ok (.getfield 33, 3) := by decide +kernel
theorem dX7_copyFrom_30 : decode cX7_copyFrom 30 = .ok (.aload_n 1, 1) := by decide +kernel
theorem dX7_copyFrom_31 : decode cX7_copyFrom 31 = .ok (.getfield 33, 3) := by decide +kernel
theorem dX7_copyFrom_34 : decode cX7_copyFrom 34 = .ok (.invokevirtual 102, 3) := by decide +kernel
theorem dX7_copyFrom_37 : decode cX7_copyFrom 37 = .ok (.aload_n 0, 1) := by decide +kernel
theorem dX7_copyFrom_38 : decode cX7_copyFrom 38 = .ok (.aload_n 1, 1) := by decide +kernel
theorem dX7_copyFrom_39 : decode cX7_copyFrom 39 = .ok (.getfield 37, 3) := by decide +kernel
theorem dX7_copyFrom_42 : decode cX7_copyFrom 42 = .ok (.putfield 37, 3) := by decide +kernel
theorem dX7_copyFrom_45 : decode cX7_copyFrom 45 = .ok (.aload_n 0, 1) := by decide +kernel
theorem dX7_copyFrom_46 : decode cX7_copyFrom 46 = .ok (.aload_n 1, 1) := by decide +kernel
theorem dX7_copyFrom_47 : decode cX7_copyFrom 47 = .ok (.getfield 41, 3) := by decide +kernel
theorem dX7_copyFrom_50 : decode cX7_copyFrom 50 = .ok (.putfield 41, 3) := by decide +kernel
theorem dX7_copyFrom_53 : decode cX7_copyFrom 53 = .ok (.aload_n 0, 1) := by decide +kernel
theorem dX7_copyFrom_54 : decode cX7_copyFrom 54 = .ok (.aload_n 1, 1) := by decide +kernel
theorem dX7_copyFrom_55 : decode cX7_copyFrom 55 = .ok (.getfield 55, 3) := by decide +kernel
theorem dX7_copyFrom_58 : decode cX7_copyFrom 58 = .ok (.putfield 55, 3) := by decide +kernel
theorem dX7_copyFrom_61 : decode cX7_copyFrom 61 = .ok (.aload_n 0, 1) := by decide +kernel
theorem dX7_copyFrom_62 : decode cX7_copyFrom 62 = .ok (.aload_n 1, 1) := by decide +kernel
theorem dX7_copyFrom_63 : decode cX7_copyFrom 63 = .ok (.getfield 58, 3) := by decide +kernel
theorem dX7_copyFrom_66 : decode cX7_copyFrom 66 = .ok (.putfield 58, 3) := by decide +kernel
theorem dX7_copyFrom_69 : decode cX7_copyFrom 69 = .ok (.aload_n 0, 1) := by decide +kernel
theorem dX7_copyFrom_70 : decode cX7_copyFrom 70 = .ok (.aload_n 1, 1) := by decide +kernel
theorem dX7_copyFrom_71 : decode cX7_copyFrom 71 = .ok (.getfield 89, 3) := by decide +kernel
theorem dX7_copyFrom_74 : decode cX7_copyFrom 74 = .ok (.putfield 89, 3) := by decide +kernel
theorem dX7_copyFrom_77 : decode cX7_copyFrom 77 = .ok (.aload_n 0, 1) := by decide +kernel
theorem dX7_copyFrom_78 : decode cX7_copyFrom 78 = .ok (.aload_n 1, 1) := by decide +kernel
theorem dX7_copyFrom_79 : decode cX7_copyFrom 79 = .ok (.getfield 86, 3) := by decide +kernel
theorem dX7_copyFrom_82 : decode cX7_copyFrom 82 = .ok (.putfield 86, 3) := by decide +kernel
theorem dX7_copyFrom_85 : decode cX7_copyFrom 85 = .ok (.aload_n 0, 1) := by decide +kernel
theorem dX7_copyFrom_86 : decode cX7_copyFrom 86 = .ok (.aload_n 1, 1) := by decide +kernel
theorem dX7_copyFrom_87 : decode cX7_copyFrom 87 = .ok (.getfield 82, 3) := by decide +kernel
theorem dX7_copyFrom_90 : decode cX7_copyFrom 90 = .ok (.putfield 82, 3) := by decide +kernel
theorem dX7_copyFrom_93 : decode cX7_copyFrom 93 = .ok (.aload_n 0, 1) := by decide +kernel
theorem dX7_copyFrom_94 : decode cX7_copyFrom 94 = .ok (.aload_n 1, 1) := by decide +kernel
theorem dX7_copyFrom_95 : decode cX7_copyFrom 95 = .ok (.getfield 72, 3) := by decide +kernel
theorem dX7_copyFrom_98 : decode cX7_copyFrom 98 = .ok (.putfield 72, 3) := by decide +kernel
theorem dX7_copyFrom_101 : decode cX7_copyFrom 101 = .ok (.aload_n 0, 1) := by decide +kernel
theorem dX7_copyFrom_102 : decode cX7_copyFrom 102 = .ok (.aload_n 1, 1) := by decide +kernel
theorem dX7_copyFrom_103 : decode cX7_copyFrom 103 = .ok (.getfield 69, 3) := by decide +kernel
theorem dX7_copyFrom_106 : decode cX7_copyFrom 106 = .ok (.putfield 69, 3) := by decide +kernel
theorem dX7_copyFrom_109 : decode cX7_copyFrom 109 = .ok (.aload_n 0, 1) := by decide +kernel
theorem dX7_copyFrom_110 : decode cX7_copyFrom 110 = .ok (.aload_n 1, 1) := by decide +kernel
theorem dX7_copyFrom_111 : decode cX7_copyFrom 111 = .ok (.getfield 75, 3) := by decide +kernel
theorem dX7_copyFrom_114 : decode cX7_copyFrom 114 = .ok (.putfield 75, 3) := by decide +kernel
theorem dX7_copyFrom_117 : decode cX7_copyFrom 117 = .ok (.return_, 1) := by decide +kernel
set_option maxRecDepth 20000 in
theorem ggX8_init_X7_init : GoodIn wsX8_init wsX7_init := goodIn_r _ [26, 27, 2, 3, 28, 29, 30, 31, 32, 33, 34, 35, 36, 37, 38, 39, 40, 41, 42, 43, 44, 45, 46, 47, 48, 49, 50, 51, 52, 53, 54, 55, 84, 85, 86, 87, 88, 89, 90, 91, 92, 93, 94, 95, 96, 116, 117, 118, 119, 120, 121] (by decide +kernel) (by decide +kernel)
set_option maxRecDepth 20000 in
theorem gX8_init_X7_init_n9 : GoodIn wsX8_init (wsX7_init) := ggX8_init_X7_init
set_option maxRecDepth 20000 in
theorem ggX8_init_X1_init : GoodIn wsX8_init wsX1_init := goodIn_r _ [58, 59, 2, 3, 60, 61, 5, 6, 25, 26, 27, 28, 29, 30, 31, 32, 33, 34, 35, 36, 37, 38, 39, 40, 41, 42, 43, 44, 45, 46, 47, 48, 49, 50, 51, 52, 53, 54, 55, 103, 104, 84, 85, 86, 87, 88, 89, 90, 91, 92, 93, 94, 95, 96, 116, 117, 118, 119, 120, 121] (by decide +kernel) (by decide +kernel)
set_option maxRecDepth 20000 in
theorem gX8_init_X1_init : GoodIn wsX8_init (wsX1_init) := ggX8_init_X1_init
set_option maxRecDepth 20000 in
theorem ggX8_init_X0_init : GoodIn wsX8_init wsX0_init := goodIn_r _ [63, 64, 2, 3, 65, 66, 67, 68, 69, 70, 71, 48, 72, 73, 74, 75, 122, 123, 124, 125, 126, 105] (by decide +kernel) (by decide +kernel)
set_option maxRecDepth 20000 in
theorem gX8_init_X0_init_n28 : GoodIn wsX8_init (wsX0_init) := ggX8_init_X0_init
set_option maxRecDepth 20000 in
theorem ggX8_init_X6_init : GoodIn wsX8_init wsX6_init := goodIn_r _ [77, 78, 2, 3, 79, 80, 106, 107, 108, 109, 110, 111] (by decide +kernel) (by decide +kernel)
set_option maxRecDepth 20000 in
theorem gX8_init_X6_init_n35 : GoodIn wsX8_init (wsX6_init) := ggX8_init_X6_init
set_option maxRecDepth 20000 in
theorem ggX8_init_X5_init : GoodIn wsX8_init wsX5_init := goodIn_r _ [82, 83, 2, 3] (by decide +kernel) (by decide +kernel)
set_option maxRecDepth 20000 in
theorem gX8_init_X5_init_n42 : GoodIn wsX8_init (wsX5_init) := ggX8_init_X5_init
theorem dX8_init_0 : decode cX8_init 0 = .ok (.aload_n 0, 1) := by decide +kernel
theorem dX8_init_1 : decode cX8_init 1 = .ok (.invokespecial 1, 3) := by decide +kernel
theorem dX8_init_4 : decode cX8_init 4 = .ok (.aload_n 0, 1) := by decide +kernel
theorem dX8_init_5 : decode cX8_init 5 = .ok (.new 7, 3) := by decide +kernel
theorem dX8_init_8 : decode cX8_init 8 = .ok (.dup, 1) := by decide +kernel
theorem dX8_init_9 : decode cX8_init 9 = .ok (.invokespecial 9, 3) := by decide +kernel
theorem dX8_init_12 : decode cX8_init 12 = .ok (.putfield 10, 3) := by decide +kernel
theorem dX8_init_15 : decode cX8_init 15 = .ok (.aload_n 0, 1) := by decide +kernel
theorem dX8_init_16 : decode cX8_init 16 = .ok (.new 7, 3) := by decide +kernel
theorem dX8_init_19 : decode cX8_init 19 = .ok (.dup, 1) := by decide +kernel
theorem dX8_init_20 : decode cX8_init 20 = .ok (.invokespecial 9, 3) := by decide +kernel
theorem dX8_init_23 : decode cX8_init 23 = .ok (.putfield 16, 3) := by decide +kernel
theorem dX8_init_26 : decode cX8_init 26 = .ok (.aload_n 0, 1) := by decide +kernel
theorem dX8_init_27 : decode cX8_init 27 = .ok (.new 19, 3) := by decide +kernel
theorem dX8_init_30 : decode cX8_init 30 = .ok (.dup, 1) := by decide +kernel
theorem dX8_init_31 : decode cX8_init 31 = .ok (.invokespecial 21, 3) := by decide +kernel
theorem dX8_init_34 : decode cX8_init 34 = .ok (.putfield 22, 3) := by decide +kernel
theorem dX8_init_37 : decode cX8_init 37 = .ok (.aload_n 0, 1) := by decide +kernel
theorem dX8_init_38 : decode cX8_init 38 = .ok (.new 26, 3) := by decide +kernel
theorem dX8_init_41 : decode cX8_init 41 = .ok (.dup, 1) := by decide +kernel
theorem dX8_init_42 : decode cX8_init 42 = .ok (.invokespecial 28, 3) := by decide +kernel
theorem dX8_init_45 : decode cX8_init 45 = .ok (.putfield 29, 3) := by decide +kernel
theorem dX8_init_48 : decode cX8_init 48 = .ok (.aload_n 0, 1) := by decide +kernel
theorem dX8_init_49 : decode cX8_init 49 = .ok (.new 33, 3) := by decide +kernel
theorem dX8_init_52 : decode cX8_init 52 = .ok (.dup, 1) := by decide +kernel
theorem dX8_init_53 : decode cX8_init 53 = .ok (.invokespecial 35, 3) := by decide +kernel
theorem dX8_init_56 : decode cX8_init 56 = .ok (.putfield 36, 3) := by decide +kernel
theorem dX8_init_59 : decode cX8_init 59 = .ok (.aload_n 0, 1) := by decide +kernel
theorem dX8_init_60 : decode cX8_init 60 = .ok (.new 40, 3) := by decide +kernel
theorem dX8_init_63 : decode cX8_init 63 = .ok (.dup, 1) := by decide +kernel
theorem dX8_init_64 : decode cX8_init 64 = .ok (.invokespecial 42, 3) := by decide +kernel
theorem dX8_init_67 : decode cX8_init 67 = .ok (.putfield 43, 3) := by decide +kernel
theorem dX8_init_70 : decode cX8_init 70 = .ok (.return_, 1) := by decide +kernel
set_option maxRecDepth 20000 in
theorem ggX8_set_X8_begin : GoodIn wsX8_set wsX8_begin := goodIn_r _ [5, 6, 7, 8, 9, 10, 11, 12, 13, 14, 15, 16, 17, 18, 19, 20, 21, 22, 23, 24, 25, 26, 27, 28, 29, 30, 31, 32, 33, 34, 35, 36, 37, 38, 39, 40, 41, 42, 43, 44, 45, 46, 47, 76, 77, 78, 79, 80, 81, 82, 83, 84, 85, 86, 87, 88, 89, 90, 91, 92, 93, 94, 95, 96, 97, 98, 99, 100] (by decide +kernel) (by decide +kernel)
set_option maxRecDepth 20000 in
theorem gX8_set_X8_begin : GoodIn wsX8_set (wsV RX8 47 RX8 yX8_begin wsX8_begin) := goodIn_app (goodIn_of _ (by decide +kernel)) ggX8_set_X8_begin
set_option maxRecDepth 20000 in
theorem ggX8_set_X7_putSetting : GoodIn wsX8_set wsX7_putSetting := goodIn_r _ [51, 52, 13, 53, 4, 54, 82, 83, 84, 85, 86, 87, 88, 89, 90, 91, 92, 93, 94] (by decide +kernel) (by decide +kernel)
set_option maxRecDepth 20000 in
theorem gX8_set_X7_putSetting : GoodIn wsX8_set (wsV RX8 51 RX7 yX7_putSetting wsX7_putSetting) := goodIn_app (goodIn_of _ (by decide +kernel)) ggX8_set_X7_putSetting
set_option maxRecDepth 20000 in
theorem ggX8_set_X8_settle : GoodIn wsX8_set wsX8_settle := goodIn_r _ [58, 59, 7, 6, 60, 61, 4, 62, 63, 64, 65, 66, 67, 68, 69, 70, 71, 72, 73, 74, 75, 9, 10, 11, 12, 13, 14, 15, 16, 17, 18, 19, 20, 21, 22, 23, 24, 25, 26, 27, 28, 29, 30, 31, 32, 33, 34, 35, 36, 37, 38, 39, 40, 41, 42, 43, 44, 45, 46, 47, 8, 76, 77, 78, 79, 80, 81, 101, 102, 82, 83, 84, 85, 86, 87, 88, 89, 90, 91, 92, 93, 94, 95, 96, 97, 98, 99, 100] (by decide +kernel) (by decide +kernel)
set_option maxRecDepth 20000 in
theorem gX8_set_X8_settle : GoodIn wsX8_set (wsV RX8 55 RX8 yX8_settle wsX8_settle) := goodIn_app (goodIn_of _ (by decide +kernel)) ggX8_set_X8_settle
theorem dX8_set_0 : decode cX8_set 0 = .ok (.aload_n 0, 1) := by decide +kernel
theorem dX8_set_1 : decode cX8_set 1 = .ok (.aload_n 0, 1) := by decide +kernel
theorem dX8_set_2 : decode cX8_set 2 = .ok (.invokevirtual 47, 3) := by decide +kernel
theorem dX8_set_5 : decode cX8_set 5 = .ok (.iload_n 1, 1) := by decide +kernel
theorem dX8_set_6 : decode cX8_set 6 = .ok (.iload_n 2, 1) := by decide +kernel
theorem dX8_set_7 : decode cX8_set 7 = .ok (.invokevirtual 51, 3) := by decide +kernel
theorem dX8_set_10 : decode cX8_set 10 = .ok (.invokevirtual 55, 3) := by decide +kernel
theorem dX8_set_13 : decode cX8_set 13 = .ok (.ireturn, 1) := by decide +kernel
set_option maxRecDepth 20000 in
theorem ggX8_limits_X8_begin : GoodIn wsX8_limits wsX8_begin := goodIn_r _ [5, 6, 7, 8, 9, 10, 11, 12, 13, 14, 15, 16, 17, 18, 19, 20, 21, 22, 23, 24, 25, 26, 27, 28, 29, 30, 31, 32, 33, 34, 35, 36, 37, 38, 39, 40, 41, 42, 43, 44, 45, 46, 47, 76, 77, 78, 79, 80, 81, 82, 83, 84, 85, 86, 87, 88, 89, 90, 91, 92, 93, 94, 95, 96, 97, 98, 99, 100] (by decide +kernel) (by decide +kernel)
set_option maxRecDepth 20000 in
theorem gX8_limits_X8_begin : GoodIn wsX8_limits (wsV RX8 47 RX8 yX8_begin wsX8_begin) := goodIn_app (goodIn_of _ (by decide +kernel)) ggX8_limits_X8_begin
set_option maxRecDepth 20000 in
theorem ggX8_limits_X7_putLimits : GoodIn wsX8_limits wsX7_putLimits := goodIn_r _ [51, 52, 20, 21, 22, 53, 4, 54, 82, 83, 84, 85, 86, 87, 88, 89, 90, 91, 92, 93, 94] (by decide +kernel) (by decide +kernel)
set_option maxRecDepth 20000 in
theorem gX8_limits_X7_putLimits : GoodIn wsX8_limits (wsV RX8 59 RX7 yX7_putLimits wsX7_putLimits) := goodIn_app (goodIn_of _ (by decide +kernel)) ggX8_limits_X7_putLimits
set_option maxRecDepth 20000 in
theorem ggX8_limits_X8_settle : GoodIn wsX8_limits wsX8_settle := goodIn_r _ [58, 59, 7, 6, 60, 61, 4, 62, 63, 64, 65, 66, 67, 68, 69, 70, 71, 72, 73, 74, 75, 9, 10, 11, 12, 13, 14, 15, 16, 17, 18, 19, 20, 21, 22, 23, 24, 25, 26, 27, 28, 29, 30, 31, 32, 33, 34, 35, 36, 37, 38, 39, 40, 41, 42, 43, 44, 45, 46, 47, 8, 76, 77, 78, 79, 80, 81, 101, 102, 82, 83, 84, 85, 86, 87, 88, 89, 90, 91, 92, 93, 94, 95, 96, 97, 98, 99, 100] (by decide +kernel) (by decide +kernel)
set_option maxRecDepth 20000 in
theorem gX8_limits_X8_settle : GoodIn wsX8_limits (wsV RX8 55 RX8 yX8_settle wsX8_settle) := goodIn_app (goodIn_of _ (by decide +kernel)) ggX8_limits_X8_settle
theorem dX8_limits_0 : decode cX8_limits 0 = .ok (.aload_n 0, 1) := by decide +kernel
theorem dX8_limits_1 : decode cX8_limits 1 = .ok (.aload_n 0, 1) := by decide +kernel
theorem dX8_limits_2 : decode cX8_limits 2 = .ok (.invokevirtual 47, 3) := by decide +kernel
theorem dX8_limits_5 : decode cX8_limits 5 = .ok (.iload_n 1, 1) := by decide +kernel
theorem dX8_limits_6 : decode cX8_limits 6 = .ok (.iload_n 2, 1) := by decide +kernel
theorem dX8_limits_7 : decode cX8_limits 7 = .ok (.invokevirtual 59, 3) := by decide +kernel
theorem dX8_limits_10 : decode cX8_limits 10 = .ok (.invokevirtual 55, 3) := by decide +kernel
theorem dX8_limits_13 : decode cX8_limits 13 = .ok (.ireturn, 1) := by decide +kernel
set_option maxRecDepth 20000 in
theorem ggX8_load_X8_begin : GoodIn wsX8_load wsX8_begin := goodIn_r _ [5, 6, 7, 8, 9, 10, 11, 12, 13, 14, 15, 16, 17, 18, 19, 20, 21, 22, 23, 24, 25, 26, 27, 28, 29, 30, 31, 32, 33, 34, 35, 36, 37, 38, 39, 40, 41, 42, 43, 44, 45, 46, 47, 90, 91, 92, 93, 94, 95, 77, 78, 79, 80, 81, 82, 83, 84, 85, 86, 87, 88, 89, 96, 97, 98, 99, 100, 101] (by decide +kernel) (by decide +kernel)
set_option maxRecDepth 20000 in
theorem gX8_load_X8_begin : GoodIn wsX8_load (wsV RX8 47 RX8 yX8_begin wsX8_begin) := goodIn_app (goodIn_of _ (by decide +kernel)) ggX8_load_X8_begin
set_option maxRecDepth 20000 in
theorem ggX8_load_X2_add : GoodIn wsX8_load wsX2_add := goodIn_r _ [51, 52, 39, 53, 35, 37, 38, 54, 4, 55, 96, 97, 98, 99] (by decide +kernel) (by decide +kernel)
set_option maxRecDepth 20000 in
theorem gX8_load_X2_add : GoodIn wsX8_load (wsV RX8 66 RX2 yX2_add wsX2_add) := goodIn_app (goodIn_of _ (by decide +kernel)) ggX8_load_X2_add
set_option maxRecDepth 20000 in
theorem ggX8_load_X8_settle : GoodIn wsX8_load wsX8_settle := goodIn_r _ [59, 60, 7, 6, 61, 62, 4, 63, 64, 65, 66, 67, 68, 69, 70, 71, 72, 73, 74, 75, 76, 9, 10, 11, 12, 13, 14, 15, 16, 17, 18, 19, 20, 21, 22, 23, 24, 25, 26, 27, 28, 29, 30, 31, 32, 33, 34, 35, 36, 37, 38, 39, 40, 41, 42, 43, 44, 45, 46, 47, 8, 90, 91, 92, 93, 94, 95, 102, 103, 77, 78, 79, 80, 81, 82, 83, 84, 85, 86, 87, 88, 89, 96, 97, 98, 99, 100, 101] (by decide +kernel) (by decide +kernel)
set_option maxRecDepth 20000 in
theorem gX8_load_X8_settle : GoodIn wsX8_load (wsV RX8 55 RX8 yX8_settle wsX8_settle) := goodIn_app (goodIn_of _ (by decide +kernel)) ggX8_load_X8_settle
theorem dX8_load_0 : decode cX8_load 0 = .ok (.aload_n 0, 1) := by decide +kernel
theorem dX8_load_1 : decode cX8_load 1 = .ok (.aload_n 0, 1) := by decide +kernel
theorem dX8_load_2 : decode cX8_load 2 = .ok (.invokevirtual 47, 3) := by decide +kernel
theorem dX8_load_5 : decode cX8_load 5 = .ok (.getfield 62, 3) := by decide +kernel
theorem dX8_load_8 : decode cX8_load 8 = .ok (.iload_n 1, 1) := by decide +kernel
theorem dX8_load_9 : decode cX8_load 9 = .ok (.iload_n 2, 1) := by decide +kernel
theorem dX8_load_10 : decode cX8_load 10 = .ok (.iload_n 3, 1) := by decide +kernel
theorem dX8_load_11 : decode cX8_load 11 = .ok (.invokevirtual 66, 3) := by decide +kernel
theorem dX8_load_14 : decode cX8_load 14 = .ok (.invokevirtual 55, 3) := by decide +kernel
theorem dX8_load_17 : decode cX8_load 17 = .ok (.ireturn, 1) := by decide +kernel
set_option maxRecDepth 20000 in
theorem ggX8_dropLoad_X8_begin : GoodIn wsX8_dropLoad wsX8_begin := goodIn_r _ [5, 6, 7, 8, 9, 10, 11, 12, 13, 14, 15, 16, 17, 18, 19, 20, 21, 22, 23, 24, 25, 26, 27, 28, 29, 30, 31, 32, 33, 34, 35, 36, 37, 38, 39, 40, 41, 42, 43, 44, 45, 46, 47, 88, 89, 90, 91, 92, 93, 75, 76, 77, 78, 79, 80, 81, 82, 83, 84, 85, 86, 87, 94, 95, 96, 97, 98, 99] (by decide +kernel) (by decide +kernel)
set_option maxRecDepth 20000 in
theorem gX8_dropLoad_X8_begin : GoodIn wsX8_dropLoad (wsV RX8 47 RX8 yX8_begin wsX8_begin) := goodIn_app (goodIn_of _ (by decide +kernel)) ggX8_dropLoad_X8_begin
set_option maxRecDepth 20000 in
theorem ggX8_dropLoad_X2_drop : GoodIn wsX8_dropLoad wsX2_drop := goodIn_r _ [51, 52, 39, 53, 38, 35, 37, 94, 95, 96, 97] (by decide +kernel) (by decide +kernel)
set_option maxRecDepth 20000 in
theorem gX8_dropLoad_X2_drop : GoodIn wsX8_dropLoad (wsV RX8 72 RX2 yX2_drop wsX2_drop) := goodIn_app (goodIn_of _ (by decide +kernel)) ggX8_dropLoad_X2_drop
set_option maxRecDepth 20000 in
theorem ggX8_dropLoad_X8_settle : GoodIn wsX8_dropLoad wsX8_settle := goodIn_r _ [57, 58, 7, 6, 59, 60, 4, 61, 62, 63, 64, 65, 66, 67, 68, 69, 70, 71, 72, 73, 74, 9, 10, 11, 12, 13, 14, 15, 16, 17, 18, 19, 20, 21, 22, 23, 24, 25, 26, 27, 28, 29, 30, 31, 32, 33, 34, 35, 36, 37, 38, 39, 40, 41, 42, 43, 44, 45, 46, 47, 8, 88, 89, 90, 91, 92, 93, 100, 101, 75, 76, 77, 78, 79, 80, 81, 82, 83, 84, 85, 86, 87, 94, 95, 96, 97, 98, 99] (by decide +kernel) (by decide +kernel)
set_option maxRecDepth 20000 in
theorem gX8_dropLoad_X8_settle : GoodIn wsX8_dropLoad (wsV RX8 55 RX8 yX8_settle wsX8_settle) := goodIn_app (goodIn_of _ (by decide +kernel)) ggX8_dropLoad_X8_settle
theorem dX8_dropLoad_0 : decode cX8_dropLoad 0 = .ok (.aload_n 0, 1) := by decide +kernel
theorem dX8_dropLoad_1 : decode cX8_dropLoad 1 = .ok (.aload_n 0, 1) := by decide +kernel
theorem dX8_dropLoad_2 : decode cX8_dropLoad 2 = .ok (.invokevirtual 47, 3) := by decide +kernel
theorem dX8_dropLoad_5 : decode cX8_dropLoad 5 = .ok (.getfield 62, 3) := by decide +kernel
theorem dX8_dropLoad_8 : decode cX8_dropLoad 8 = .ok (.iload_n 1, 1) := by decide +kernel
theorem dX8_dropLoad_9 : decode cX8_dropLoad 9 = .ok (.invokevirtual 72, 3) := by decide +kernel
theorem dX8_dropLoad_12 : decode cX8_dropLoad 12 = .ok (.invokevirtual 55, 3) := by decide +kernel
theorem dX8_dropLoad_15 : decode cX8_dropLoad 15 = .ok (.ireturn, 1) := by decide +kernel
set_option maxRecDepth 20000 in
theorem ggX8_loadOf_X2_part : GoodIn wsX8_loadOf wsX2_part := goodIn_r _ [6, 7, 8, 9, 10, 11, 12, 13, 14, 15, 35, 36, 37, 38] (by decide +kernel) (by decide +kernel)
set_option maxRecDepth 20000 in
theorem gX8_loadOf_X2_part : GoodIn wsX8_loadOf (wsV RX8 75 RX2 yX2_part wsX2_part) := goodIn_app (goodIn_of _ (by decide +kernel)) ggX8_loadOf_X2_part
theorem dX8_loadOf_0 : decode cX8_loadOf 0 = .ok (.aload_n 0, 1) := by decide +kernel
theorem dX8_loadOf_1 : decode cX8_loadOf 1 = .ok (.getfield 10, 3) := by decide +kernel
theorem dX8_loadOf_4 : decode cX8_loadOf 4 = .ok (.getfield 62, 3) := by decide +kernel
theorem dX8_loadOf_7 : decode cX8_loadOf 7 = .ok (.iload_n 1, 1) := by decide +kernel
theorem dX8_loadOf_8 : decode cX8_loadOf 8 = .ok (.iload_n 2, 1) := by decide +kernel
theorem dX8_loadOf_9 : decode cX8_loadOf 9 = .ok (.invokevirtual 75, 3) := by decide +kernel
theorem dX8_loadOf_12 : decode cX8_loadOf 12 = .ok (.ireturn, 1) := by decide +kernel
set_option maxRecDepth 20000 in
theorem ggX8_loadAt_X8_within : GoodIn wsX8_loadAt wsX8_within := goodIn_r _ [6] (by decide +kernel) (by decide +kernel)
set_option maxRecDepth 20000 in
theorem gX8_loadAt_X8_within : GoodIn wsX8_loadAt (va_wsS RX8 78 yX8_within wsX8_within) := goodIn_app (goodIn_of _ (by decide +kernel)) ggX8_loadAt_X8_within
set_option maxRecDepth 20000 in
theorem ggX8_loadAt_X2_weightAt : GoodIn wsX8_loadAt wsX2_weightAt := goodIn_r _ [11, 12, 13, 14, 15, 35, 36, 37, 38] (by decide +kernel) (by decide +kernel)
set_option maxRecDepth 20000 in
theorem gX8_loadAt_X2_weightAt : GoodIn wsX8_loadAt (wsV RX8 82 RX2 yX2_weightAt wsX2_weightAt) := goodIn_app (goodIn_of _ (by decide +kernel)) ggX8_loadAt_X2_weightAt
theorem dX8_loadAt_0 : decode cX8_loadAt 0 = .ok (.iload_n 1, 1) := by decide +kernel
theorem dX8_loadAt_1 : decode cX8_loadAt 1 = .ok (.sipush (-3000), 3) := by decide +kernel
theorem dX8_loadAt_4 : decode cX8_loadAt 4 = .ok (.sipush 3000, 3) := by decide +kernel
theorem dX8_loadAt_7 : decode cX8_loadAt 7 = .ok (.invokestatic 78, 3) := by decide +kernel
theorem dX8_loadAt_10 : decode cX8_loadAt 10 = .ok (.ifCond .eq 17, 3) := by decide +kernel
theorem dX8_loadAt_13 : decode cX8_loadAt 13 = .ok (.aload_n 0, 1) := by decide +kernel
theorem dX8_loadAt_14 : decode cX8_loadAt 14 = .ok (.getfield 10, 3) := by decide +kernel
theorem dX8_loadAt_17 : decode cX8_loadAt 17 = .ok (.getfield 62, 3) := by decide +kernel
theorem dX8_loadAt_20 : decode cX8_loadAt 20 = .ok (.iload_n 1, 1) := by decide +kernel
theorem dX8_loadAt_21 : decode cX8_loadAt 21 = .ok (.invokevirtual 82, 3) := by decide +kernel
theorem dX8_loadAt_24 : decode cX8_loadAt 24 = .ok (.goto 5, 3) := by decide +kernel
theorem dX8_loadAt_27 : decode cX8_loadAt 27 = .ok (.ldc 85, 2) := by decide +kernel
theorem dX8_loadAt_29 : decode cX8_loadAt 29 = .ok (.ireturn, 1) := by decide +kernel
set_option maxRecDepth 20000 in
theorem ggX8_ramp_X8_within : GoodIn wsX8_ramp wsX8_within := goodIn_r _ [8] (by decide +kernel) (by decide +kernel)
set_option maxRecDepth 20000 in
theorem gX8_ramp_X8_within : GoodIn wsX8_ramp (va_wsS RX8 78 yX8_within wsX8_within) := goodIn_app (goodIn_of _ (by decide +kernel)) ggX8_ramp_X8_within
set_option maxRecDepth 20000 in
theorem ggX8_ramp_X0_rampOf : GoodIn wsX8_ramp wsX0_rampOf := goodIn_r _ [13, 14, 15, 16, 17, 18, 19, 20, 21, 22, 23, 24, 25, 26, 27, 28, 29, 30, 31, 59, 60, 61, 62, 63, 64, 65, 66, 67, 68, 69, 70, 71, 72, 54, 55, 56, 57, 58] (by decide +kernel) (by decide +kernel)
set_option maxRecDepth 20000 in
theorem gX8_ramp_X0_rampOf : GoodIn wsX8_ramp (wsV RX8 86 RX0 yX0_rampOf wsX0_rampOf) := goodIn_app (goodIn_of _ (by decide +kernel)) ggX8_ramp_X0_rampOf
set_option maxRecDepth 20000 in
theorem ggX8_ramp_X4_interval : GoodIn wsX8_ramp wsX4_interval := goodIn_r _ [35, 24, 6, 7, 8, 54, 55, 56, 57, 58] (by decide +kernel) (by decide +kernel)
set_option maxRecDepth 20000 in
theorem gX8_ramp_X4_interval : GoodIn wsX8_ramp (wsV RX8 97 RX4 yX4_interval wsX4_interval) := goodIn_app (goodIn_of _ (by decide +kernel)) ggX8_ramp_X4_interval
set_option maxRecDepth 20000 in
theorem ggX8_ramp_X4_rest : GoodIn wsX8_ramp wsX4_rest := goodIn_r _ [39, 25, 6, 7, 8, 54, 55, 56, 57, 58] (by decide +kernel) (by decide +kernel)
set_option maxRecDepth 20000 in
theorem gX8_ramp_X4_rest : GoodIn wsX8_ramp (wsV RX8 100 RX4 yX4_rest wsX4_rest) := goodIn_app (goodIn_of _ (by decide +kernel)) ggX8_ramp_X4_rest
set_option maxRecDepth 20000 in
theorem ggX8_ramp_X4_pull : GoodIn wsX8_ramp wsX4_pull := goodIn_r _ [43, 26, 6, 7, 8, 54, 55, 56, 57, 58] (by decide +kernel) (by decide +kernel)
set_option maxRecDepth 20000 in
theorem gX8_ramp_X4_pull : GoodIn wsX8_ramp (wsV RX8 103 RX4 yX4_pull wsX4_pull) := goodIn_app (goodIn_of _ (by decide +kernel)) ggX8_ramp_X4_pull
set_option maxRecDepth 20000 in
theorem ggX8_ramp_X4_sum : GoodIn wsX8_ramp wsX4_sum := goodIn_r _ [47, 27, 6, 7, 8, 54, 55, 56, 57, 58] (by decide +kernel) (by decide +kernel)
set_option maxRecDepth 20000 in
theorem gX8_ramp_X4_sum : GoodIn wsX8_ramp (wsV RX8 106 RX4 yX4_sum wsX4_sum) := goodIn_app (goodIn_of _ (by decide +kernel)) ggX8_ramp_X4_sum
theorem dX8_ramp_0 : decode cX8_ramp 0 = .ok (.iload_n 1, 1) := by decide +kernel
theorem dX8_ramp_1 : decode cX8_ramp 1 = .ok (.ifCond .lt 12, 3) := by decide +kernel
theorem dX8_ramp_4 : decode cX8_ramp 4 = .ok (.iload_n 2, 1) := by decide +kernel
theorem dX8_ramp_5 : decode cX8_ramp 5 = .ok (.iconst 0, 1) := by decide +kernel
theorem dX8_ramp_6 : decode cX8_ramp 6 = .ok (.iconst 3, 1) := by decide +kernel
theorem dX8_ramp_7 : decode cX8_ramp 7 = .ok (.invokestatic 78, 3) := by decide +kernel
theorem dX8_ramp_10 : decode cX8_ramp 10 = .ok (.ifCond .ne 6, 3) := by decide +kernel
theorem dX8_ramp_13 : decode cX8_ramp 13 = .ok (.ldc 85, 2) := by decide +kernel
theorem dX8_ramp_15 : decode cX8_ramp 15 = .ok (.ireturn, 1) := by decide +kernel
theorem dX8_ramp_16 : decode cX8_ramp 16 = .ok (.aload_n 0, 1) := by decide +kernel
theorem dX8_ramp_17 : decode cX8_ramp 17 = .ok (.getfield 29, 3) := by decide +kernel
theorem dX8_ramp_20 : decode cX8_ramp 20 = .ok (.aload_n 0, 1) := by decide +kernel
theorem dX8_ramp_21 : decode cX8_ramp 21 = .ok (.getfield 10, 3) := by decide +kernel
theorem dX8_ramp_24 : decode cX8_ramp 24 = .ok (.invokevirtual 86, 3) := by decide +kernel
theorem dX8_ramp_27 : decode cX8_ramp 27 = .ok (.astore_n 3, 1) := by decide +kernel
theorem dX8_ramp_28 : decode cX8_ramp 28 = .ok (.iload_n 1, 1) := by decide +kernel
theorem dX8_ramp_29 : decode cX8_ramp 29 = .ok (.aload_n 3, 1) := by decide +kernel
theorem dX8_ramp_30 : decode cX8_ramp 30 = .ok (.getfield 90, 3) := by decide +kernel
theorem dX8_ramp_33 : decode cX8_ramp 33 = .ok (.if_icmp .le 6, 3) := by decide +kernel
theorem dX8_ramp_36 : decode cX8_ramp 36 = .ok (.ldc 96, 2) := by decide +kernel
theorem dX8_ramp_38 : decode cX8_ramp 38 = .ok (.ireturn, 1) := by decide +kernel
theorem dX8_ramp_39 : decode cX8_ramp 39 = .ok (.iload_n 2, 1) := by decide +kernel
theorem dX8_ramp_40 : decode cX8_ramp 40 = .ok (.tableswitch 46 0 2 #[28, 34, 40], 28) := by decide +kernel
theorem dX8_ramp_68 : decode cX8_ramp 68 = .ok (.aload_n 3, 1) := by decide +kernel
theorem dX8_ramp_69 : decode cX8_ramp 69 = .ok (.iload_n 1, 1) := by decide +kernel
theorem dX8_ramp_70 : decode cX8_ramp 70 = .ok (.invokevirtual 97, 3) := by decide +kernel
theorem dX8_ramp_73 : decode cX8_ramp 73 = .ok (.ireturn, 1) := by decide +kernel
theorem dX8_ramp_74 : decode cX8_ramp 74 = .ok (.aload_n 3, 1) := by decide +kernel
theorem dX8_ramp_75 : decode cX8_ramp 75 = .ok (.iload_n 1, 1) := by decide +kernel
theorem dX8_ramp_76 : decode cX8_ramp 76 = .ok (.invokevirtual 100, 3) := by decide +kernel
theorem dX8_ramp_79 : decode cX8_ramp 79 = .ok (.ireturn, 1) := by decide +kernel
theorem dX8_ramp_80 : decode cX8_ramp 80 = .ok (.aload_n 3, 1) := by decide +kernel
theorem dX8_ramp_81 : decode cX8_ramp 81 = .ok (.iload_n 1, 1) := by decide +kernel
theorem dX8_ramp_82 : decode cX8_ramp 82 = .ok (.invokevirtual 103, 3) := by decide +kernel
theorem dX8_ramp_85 : decode cX8_ramp 85 = .ok (.ireturn, 1) := by decide +kernel
theorem dX8_ramp_86 : decode cX8_ramp 86 = .ok (.aload_n 3, 1) := by decide +kernel
theorem dX8_ramp_87 : decode cX8_ramp 87 = .ok (.iload_n 1, 1) := by decide +kernel
theorem dX8_ramp_88 : decode cX8_ramp 88 = .ok (.invokevirtual 106, 3) := by decide +kernel
theorem dX8_ramp_91 : decode cX8_ramp 91 = .ok (.ireturn, 1) := by decide +kernel
set_option maxRecDepth 20000 in
theorem ggX8_top_X0_rampOf : GoodIn wsX8_top wsX0_rampOf := goodIn_r _ [7, 8, 9, 10, 11, 12, 13, 14, 15, 16, 17, 18, 19, 20, 21, 22, 23, 24, 25, 37, 38, 39, 40, 41, 42, 43, 44, 45, 46, 47, 48, 49, 50, 32, 33, 34, 35, 36] (by decide +kernel) (by decide +kernel)
set_option maxRecDepth 20000 in
theorem gX8_top_X0_rampOf : GoodIn wsX8_top (wsV RX8 86 RX0 yX0_rampOf wsX0_rampOf) := goodIn_app (goodIn_of _ (by decide +kernel)) ggX8_top_X0_rampOf
theorem dX8_top_0 : decode cX8_top 0 = .ok (.aload_n 0, 1) := by decide +kernel
theorem dX8_top_1 : decode cX8_top 1 = .ok (.getfield 29, 3) := by decide +kernel
theorem dX8_top_4 : decode cX8_top 4 = .ok (.aload_n 0, 1) := by decide +kernel
theorem dX8_top_5 : decode cX8_top 5 = .ok (.getfield 10, 3) := by decide +kernel
theorem dX8_top_8 : decode cX8_top 8 = .ok (.invokevirtual 86, 3) := by decide +kernel
theorem dX8_top_11 : decode cX8_top 11 = .ok (.getfield 90, 3) := by decide +kernel
theorem dX8_top_14 : decode cX8_top 14 = .ok (.ireturn, 1) := by decide +kernel
set_option maxRecDepth 20000 in
theorem ggX8_timeOf_X8_within : GoodIn wsX8_timeOf wsX8_within := goodIn_r _ [7] (by decide +kernel) (by decide +kernel)
set_option maxRecDepth 20000 in
theorem gX8_timeOf_X8_within : GoodIn wsX8_timeOf (va_wsS RX8 78 yX8_within wsX8_within) := goodIn_app (goodIn_of _ (by decide +kernel)) ggX8_timeOf_X8_within
set_option maxRecDepth 20000 in
theorem ggX8_timeOf_X0_rampOf : GoodIn wsX8_timeOf wsX0_rampOf := goodIn_r _ [12, 13, 14, 15, 16, 17, 18, 19, 20, 21, 22, 23, 24, 25, 26, 27, 28, 29, 30, 49, 50, 51, 52, 53, 54, 55, 56, 57, 58, 59, 60, 61, 62, 63, 64, 65, 66, 67] (by decide +kernel) (by decide +kernel)
set_option maxRecDepth 20000 in
theorem gX8_timeOf_X0_rampOf : GoodIn wsX8_timeOf (wsV RX8 86 RX0 yX0_rampOf wsX0_rampOf) := goodIn_app (goodIn_of _ (by decide +kernel)) ggX8_timeOf_X0_rampOf
set_option maxRecDepth 20000 in
theorem ggX8_timeOf_X4_time : GoodIn wsX8_timeOf wsX4_time := goodIn_r _ [34, 27, 19, 20, 21, 22, 35, 36, 37, 17, 38, 26, 5, 6, 7, 39, 40, 41, 42, 23, 63, 64, 65, 66, 67] (by decide +kernel) (by decide +kernel)
set_option maxRecDepth 20000 in
theorem gX8_timeOf_X4_time : GoodIn wsX8_timeOf (wsV RX8 109 RX4 yX4_time wsX4_time) := goodIn_app (goodIn_of _ (by decide +kernel)) ggX8_timeOf_X4_time
theorem dX8_timeOf_0 : decode cX8_timeOf 0 = .ok (.iload_n 1, 1) := by decide +kernel
theorem dX8_timeOf_1 : decode cX8_timeOf 1 = .ok (.iconst 0, 1) := by decide +kernel
theorem dX8_timeOf_2 : decode cX8_timeOf 2 = .ok (.sipush 6000, 3) := by decide +kernel
theorem dX8_timeOf_5 : decode cX8_timeOf 5 = .ok (.invokestatic 78, 3) := by decide +kernel
theorem dX8_timeOf_8 : decode cX8_timeOf 8 = .ok (.ifCond .eq 21, 3) := by decide +kernel
theorem dX8_timeOf_11 : decode cX8_timeOf 11 = .ok (.aload_n 0, 1) := by decide +kernel
theorem dX8_timeOf_12 : decode cX8_timeOf 12 = .ok (.getfield 29, 3) := by decide +kernel
theorem dX8_timeOf_15 : decode cX8_timeOf 15 = .ok (.aload_n 0, 1) := by decide +kernel
theorem dX8_timeOf_16 : decode cX8_timeOf 16 = .ok (.getfield 10, 3) := by decide +kernel
theorem dX8_timeOf_19 : decode cX8_timeOf 19 = .ok (.invokevirtual 86, 3) := by decide +kernel
theorem dX8_timeOf_22 : decode cX8_timeOf 22 = .ok (.iload_n 1, 1) := by decide +kernel
theorem dX8_timeOf_23 : decode cX8_timeOf 23 = .ok (.invokevirtual 109, 3) := by decide +kernel
theorem dX8_timeOf_26 : decode cX8_timeOf 26 = .ok (.goto 5, 3) := by decide +kernel
theorem dX8_timeOf_29 : decode cX8_timeOf 29 = .ok (.ldc 85, 2) := by decide +kernel
theorem dX8_timeOf_31 : decode cX8_timeOf 31 = .ok (.ireturn, 1) := by decide +kernel
set_option maxRecDepth 20000 in
theorem ggX8_move_X8_begin : GoodIn wsX8_move wsX8_begin := goodIn_r _ [6, 7, 8, 9, 10, 11, 12, 13, 14, 15, 16, 17, 18, 19, 20, 21, 22, 23, 24, 25, 26, 27, 28, 29, 30, 31, 32, 33, 34, 35, 36, 37, 38, 39, 40, 41, 42, 43, 44, 45, 46, 47, 48, 151, 152, 153, 154, 155, 156, 157, 158, 159, 160, 161, 162, 163, 164, 165, 166, 167, 168, 169, 170, 171, 172, 173, 174, 175] (by decide +kernel) (by decide +kernel)
set_option maxRecDepth 20000 in
theorem gX8_move_X8_begin : GoodIn wsX8_move (wsV RX8 47 RX8 yX8_begin wsX8_begin) := goodIn_app (goodIn_of _ (by decide +kernel)) ggX8_move_X8_begin
set_option maxRecDepth 20000 in
theorem ggX8_move_X0_goTo : GoodIn wsX8_move wsX0_goTo := goodIn_r _ [53, 54, 55, 56, 57, 58, 59, 60, 61, 52, 62, 63, 64, 65, 5, 66, 67, 68, 69, 70, 71, 72, 73, 74, 75, 76, 77, 78, 79, 80, 81, 82, 83, 84, 85, 86, 87, 88, 89, 90, 91, 92, 93, 94, 95, 96, 97, 98, 99, 100, 12, 101, 24, 23, 19, 29, 28, 30, 102, 103, 104, 105, 106, 107, 34, 108, 40, 36, 38, 39, 109, 110, 111, 112, 14, 27, 113, 114, 115, 116, 117, 118, 119, 120, 121, 122, 123, 124, 125, 126, 127, 128, 44, 129, 46, 47, 16, 17, 18, 48, 176, 157, 158, 159, 160, 161, 162, 163, 164, 165, 166, 167, 168, 169, 177, 178, 179, 180, 181, 170, 171, 172, 173, 174, 175] (by decide +kernel) (by decide +kernel)
set_option maxRecDepth 20000 in
theorem gX8_move_X0_goTo : GoodIn wsX8_move (wsV RX8 112 RX0 yX0_goTo wsX0_goTo) := goodIn_app (goodIn_of _ (by decide +kernel)) ggX8_move_X0_goTo
set_option maxRecDepth 20000 in
theorem ggX8_move_X8_settle : GoodIn wsX8_move wsX8_settle := goodIn_r _ [133, 134, 8, 7, 135, 136, 5, 137, 138, 139, 140, 141, 142, 143, 144, 145, 146, 147, 148, 149, 150, 10, 11, 12, 13, 14, 15, 16, 17, 18, 19, 20, 21, 22, 23, 24, 25, 26, 27, 28, 29, 30, 31, 32, 33, 34, 35, 36, 37, 38, 39, 40, 41, 42, 43, 44, 45, 46, 47, 48, 9, 151, 152, 153, 154, 155, 156, 182, 183, 157, 158, 159, 160, 161, 162, 163, 164, 165, 166, 167, 168, 169, 170, 171, 172, 173, 174, 175] (by decide +kernel) (by decide +kernel)
set_option maxRecDepth 20000 in
theorem gX8_move_X8_settle : GoodIn wsX8_move (wsV RX8 55 RX8 yX8_settle wsX8_settle) := goodIn_app (goodIn_of _ (by decide +kernel)) ggX8_move_X8_settle
theorem dX8_move_0 : decode cX8_move 0 = .ok (.aload_n 0, 1) := by decide +kernel
theorem dX8_move_1 : decode cX8_move 1 = .ok (.aload_n 0, 1) := by decide +kernel
theorem dX8_move_2 : decode cX8_move 2 = .ok (.getfield 29, 3) := by decide +kernel
theorem dX8_move_5 : decode cX8_move 5 = .ok (.aload_n 0, 1) := by decide +kernel
theorem dX8_move_6 : decode cX8_move 6 = .ok (.invokevirtual 47, 3) := by decide +kernel
theorem dX8_move_9 : decode cX8_move 9 = .ok (.iload_n 1, 1) := by decide +kernel
theorem dX8_move_10 : decode cX8_move 10 = .ok (.invokevirtual 112, 3) := by decide +kernel
theorem dX8_move_13 : decode cX8_move 13 = .ok (.invokevirtual 55, 3) := by decide +kernel
theorem dX8_move_16 : decode cX8_move 16 = .ok (.ireturn, 1) := by decide +kernel
set_option maxRecDepth 20000 in
theorem ggX8_moveBy_X8_begin : GoodIn wsX8_moveBy wsX8_begin := goodIn_r _ [6, 7, 8, 9, 10, 11, 12, 13, 14, 15, 16, 17, 18, 19, 20, 21, 22, 23, 24, 25, 26, 27, 28, 29, 30, 31, 32, 33, 34, 35, 36, 37, 38, 39, 40, 41, 42, 43, 44, 45, 46, 47, 48, 155, 156, 157, 158, 159, 160, 161, 162, 163, 164, 165, 166, 167, 168, 169, 170, 171, 172, 173, 174, 175, 176, 177, 178, 179] (by decide +kernel) (by decide +kernel)
set_option maxRecDepth 20000 in
theorem gX8_moveBy_X8_begin : GoodIn wsX8_moveBy (wsV RX8 47 RX8 yX8_begin wsX8_begin) := goodIn_app (goodIn_of _ (by decide +kernel)) ggX8_moveBy_X8_begin
set_option maxRecDepth 20000 in
theorem ggX8_moveBy_X0_goBy : GoodIn wsX8_moveBy wsX0_goBy := goodIn_r _ [53, 54, 55, 56, 5, 57, 58, 59, 60, 52, 61, 62, 63, 64, 65, 66, 67, 68, 69, 70, 71, 72, 73, 74, 75, 76, 77, 78, 79, 80, 81, 82, 83, 84, 85, 86, 87, 88, 89, 90, 91, 92, 93, 94, 95, 96, 97, 98, 99, 100, 101, 102, 103, 104, 12, 105, 24, 23, 19, 29, 28, 30, 106, 107, 108, 109, 110, 111, 34, 112, 40, 36, 38, 39, 113, 114, 115, 116, 14, 27, 117, 118, 119, 120, 121, 122, 123, 124, 125, 126, 127, 128, 129, 130, 131, 132, 44, 133, 46, 47, 16, 17, 18, 48, 161, 162, 163, 164, 165, 166, 167, 168, 169, 170, 171, 172, 173, 180, 181, 182, 183, 184, 185, 174, 175, 176, 177, 178, 179] (by decide +kernel) (by decide +kernel)
set_option maxRecDepth 20000 in
theorem gX8_moveBy_X0_goBy : GoodIn wsX8_moveBy (wsV RX8 116 RX0 yX0_goBy wsX0_goBy) := goodIn_app (goodIn_of _ (by decide +kernel)) ggX8_moveBy_X0_goBy
set_option maxRecDepth 20000 in
theorem ggX8_moveBy_X8_settle : GoodIn wsX8_moveBy wsX8_settle := goodIn_r _ [137, 138, 8, 7, 139, 140, 5, 141, 142, 143, 144, 145, 146, 147, 148, 149, 150, 151, 152, 153, 154, 10, 11, 12, 13, 14, 15, 16, 17, 18, 19, 20, 21, 22, 23, 24, 25, 26, 27, 28, 29, 30, 31, 32, 33, 34, 35, 36, 37, 38, 39, 40, 41, 42, 43, 44, 45, 46, 47, 48, 9, 155, 156, 157, 158, 159, 160, 186, 187, 161, 162, 163, 164, 165, 166, 167, 168, 169, 170, 171, 172, 173, 174, 175, 176, 177, 178, 179] (by decide +kernel) (by decide +kernel)
set_option maxRecDepth 20000 in
theorem gX8_moveBy_X8_settle : GoodIn wsX8_moveBy (wsV RX8 55 RX8 yX8_settle wsX8_settle) := goodIn_app (goodIn_of _ (by decide +kernel)) ggX8_moveBy_X8_settle
theorem dX8_moveBy_0 : decode cX8_moveBy 0 = .ok (.aload_n 0, 1) := by decide +kernel
theorem dX8_moveBy_1 : decode cX8_moveBy 1 = .ok (.aload_n 0, 1) := by decide +kernel
theorem dX8_moveBy_2 : decode cX8_moveBy 2 = .ok (.getfield 29, 3) := by decide +kernel
theorem dX8_moveBy_5 : decode cX8_moveBy 5 = .ok (.aload_n 0, 1) := by decide +kernel
theorem dX8_moveBy_6 : decode cX8_moveBy 6 = .ok (.invokevirtual 47, 3) := by decide +kernel
theorem dX8_moveBy_9 : decode cX8_moveBy 9 = .ok (.iload_n 1, 1) := by decide +kernel
theorem dX8_moveBy_10 : decode cX8_moveBy 10 = .ok (.invokevirtual 116, 3) := by decide +kernel
theorem dX8_moveBy_13 : decode cX8_moveBy 13 = .ok (.invokevirtual 55, 3) := by decide +kernel
theorem dX8_moveBy_16 : decode cX8_moveBy 16 = .ok (.ireturn, 1) := by decide +kernel
set_option maxRecDepth 20000 in
theorem ggX8_home_X8_begin : GoodIn wsX8_home wsX8_begin := goodIn_r _ [6, 7, 8, 9, 10, 11, 12, 13, 14, 15, 16, 17, 18, 19, 20, 21, 22, 23, 24, 25, 26, 27, 28, 29, 30, 31, 32, 33, 34, 35, 36, 37, 38, 39, 40, 41, 42, 43, 44, 45, 46, 47, 48, 132, 133, 134, 135, 136, 137, 138, 139, 140, 141, 142, 143, 144, 145, 146, 147, 148, 149, 150, 151, 152, 153, 154, 155, 156] (by decide +kernel) (by decide +kernel)
set_option maxRecDepth 20000 in
theorem gX8_home_X8_begin : GoodIn wsX8_home (wsV RX8 47 RX8 yX8_begin wsX8_begin) := goodIn_app (goodIn_of _ (by decide +kernel)) ggX8_home_X8_begin
set_option maxRecDepth 20000 in
theorem ggX8_home_X0_seekSwitch : GoodIn wsX8_home wsX0_seekSwitch := goodIn_r _ [53, 54, 55, 56, 57, 58, 59, 60, 61, 62, 63, 64, 65, 66, 67, 68, 69, 70, 71, 72, 73, 74, 75, 52, 76, 77, 78, 79, 80, 81, 82, 5, 83, 84, 85, 86, 87, 88, 89, 90, 12, 91, 24, 23, 19, 29, 28, 30, 92, 93, 94, 95, 96, 97, 34, 98, 40, 36, 38, 39, 99, 100, 101, 102, 14, 27, 103, 104, 105, 106, 107, 108, 109, 110, 26, 25, 157, 138, 139, 140, 141, 142, 143, 144, 145, 146, 147, 148, 149, 150, 158, 159, 160, 161, 162, 151, 152, 153, 154] (by decide +kernel) (by decide +kernel)
set_option maxRecDepth 20000 in
theorem gX8_home_X0_seekSwitch : GoodIn wsX8_home (wsV RX8 119 RX0 yX0_seekSwitch wsX0_seekSwitch) := goodIn_app (goodIn_of _ (by decide +kernel)) ggX8_home_X0_seekSwitch
set_option maxRecDepth 20000 in
theorem ggX8_home_X8_settle : GoodIn wsX8_home wsX8_settle := goodIn_r _ [114, 115, 8, 7, 116, 117, 5, 118, 119, 120, 121, 122, 123, 124, 125, 126, 127, 128, 129, 130, 131, 10, 11, 12, 13, 14, 15, 16, 17, 18, 19, 20, 21, 22, 23, 24, 25, 26, 27, 28, 29, 30, 31, 32, 33, 34, 35, 36, 37, 38, 39, 40, 41, 42, 43, 44, 45, 46, 47, 48, 9, 132, 133, 134, 135, 136, 137, 163, 164, 138, 139, 140, 141, 142, 143, 144, 145, 146, 147, 148, 149, 150, 151, 152, 153, 154, 155, 156] (by decide +kernel) (by decide +kernel)
set_option maxRecDepth 20000 in
theorem gX8_home_X8_settle : GoodIn wsX8_home (wsV RX8 55 RX8 yX8_settle wsX8_settle) := goodIn_app (goodIn_of _ (by decide +kernel)) ggX8_home_X8_settle
theorem dX8_home_0 : decode cX8_home 0 = .ok (.aload_n 0, 1) := by decide +kernel
theorem dX8_home_1 : decode cX8_home 1 = .ok (.aload_n 0, 1) := by decide +kernel
theorem dX8_home_2 : decode cX8_home 2 = .ok (.getfield 29, 3) := by decide +kernel
theorem dX8_home_5 : decode cX8_home 5 = .ok (.aload_n 0, 1) := by decide +kernel
theorem dX8_home_6 : decode cX8_home 6 = .ok (.invokevirtual 47, 3) := by decide +kernel
theorem dX8_home_9 : decode cX8_home 9 = .ok (.invokevirtual 119, 3) := by decide +kernel
theorem dX8_home_12 : decode cX8_home 12 = .ok (.invokevirtual 55, 3) := by decide +kernel
theorem dX8_home_15 : decode cX8_home 15 = .ok (.ireturn, 1) := by decide +kernel
set_option maxRecDepth 20000 in
theorem ggX8_forget_X8_begin : GoodIn wsX8_forget wsX8_begin := goodIn_r _ [5, 6, 7, 8, 9, 10, 11, 12, 13, 14, 15, 16, 17, 18, 19, 20, 21, 22, 23, 24, 25, 26, 27, 28, 29, 30, 31, 32, 33, 34, 35, 36, 37, 38, 39, 40, 41, 42, 43, 44, 45, 46, 47, 86, 87, 88, 89, 90, 91, 73, 74, 75, 76, 77, 78, 79, 80, 81, 82, 83, 84, 85, 92, 93, 94, 95, 96, 97] (by decide +kernel) (by decide +kernel)
set_option maxRecDepth 20000 in
theorem gX8_forget_X8_begin : GoodIn wsX8_forget (wsV RX8 47 RX8 yX8_begin wsX8_begin) := goodIn_app (goodIn_of _ (by decide +kernel)) ggX8_forget_X8_begin
set_option maxRecDepth 20000 in
theorem ggX8_forget_X3_empty : GoodIn wsX8_forget wsX3_empty := goodIn_r _ [51, 47, 96, 97] (by decide +kernel) (by decide +kernel)
set_option maxRecDepth 20000 in
theorem gX8_forget_X3_empty : GoodIn wsX8_forget (wsV RX8 127 RX3 yX3_empty wsX3_empty) := goodIn_app (goodIn_of _ (by decide +kernel)) ggX8_forget_X3_empty
set_option maxRecDepth 20000 in
theorem ggX8_forget_X8_settle : GoodIn wsX8_forget wsX8_settle := goodIn_r _ [55, 56, 7, 6, 57, 58, 4, 59, 60, 61, 62, 63, 64, 65, 66, 67, 68, 69, 70, 71, 72, 9, 10, 11, 12, 13, 14, 15, 16, 17, 18, 19, 20, 21, 22, 23, 24, 25, 26, 27, 28, 29, 30, 31, 32, 33, 34, 35, 36, 37, 38, 39, 40, 41, 42, 43, 44, 45, 46, 47, 8, 86, 87, 88, 89, 90, 91, 98, 99, 73, 74, 75, 76, 77, 78, 79, 80, 81, 82, 83, 84, 85, 92, 93, 94, 95, 96, 97] (by decide +kernel) (by decide +kernel)
set_option maxRecDepth 20000 in
theorem gX8_forget_X8_settle : GoodIn wsX8_forget (wsV RX8 55 RX8 yX8_settle wsX8_settle) := goodIn_app (goodIn_of _ (by decide +kernel)) ggX8_forget_X8_settle
theorem dX8_forget_0 : decode cX8_forget 0 = .ok (.aload_n 0, 1) := by decide +kernel
theorem dX8_forget_1 : decode cX8_forget 1 = .ok (.aload_n 0, 1) := by decide +kernel
theorem dX8_forget_2 : decode cX8_forget 2 = .ok (.invokevirtual 47, 3) := by decide +kernel
theorem dX8_forget_5 : decode cX8_forget 5 = .ok (.getfield 123, 3) := by decide +kernel
theorem dX8_forget_8 : decode cX8_forget 8 = .ok (.invokevirtual 127, 3) := by decide +kernel
theorem dX8_forget_11 : decode cX8_forget 11 = .ok (.invokevirtual 55, 3) := by decide +kernel
theorem dX8_forget_14 : decode cX8_forget 14 = .ok (.ireturn, 1) := by decide +kernel
theorem dX8_axis_0 : decode cX8_axis 0 = .ok (.iload_n 1, 1) := by decide +kernel
theorem dX8_axis_1 : decode cX8_axis 1 = .ok (.tableswitch 167 0 9 #[55, 63, 71, 95, 111, 127, 135, 143, 151, 159], 55) := by decide +kernel
theorem dX8_axis_56 : decode cX8_axis 56 = .ok (.aload_n 0, 1) := by decide +kernel
theorem dX8_axis_57 : decode cX8_axis 57 = .ok (.getfield 10, 3) := by decide +kernel
theorem dX8_axis_60 : decode cX8_axis 60 = .ok (.getfield 133, 3) := by decide +kernel
theorem dX8_axis_63 : decode cX8_axis 63 = .ok (.ireturn, 1) := by decide +kernel
theorem dX8_axis_64 : decode cX8_axis 64 = .ok (.aload_n 0, 1) := by decide +kernel
theorem dX8_axis_65 : decode cX8_axis 65 = .ok (.getfield 10, 3) := by decide +kernel
theorem dX8_axis_68 : decode cX8_axis 68 = .ok (.getfield 136, 3) := by decide +kernel
theorem dX8_axis_71 : decode cX8_axis 71 = .ok (.ireturn, 1) := by decide +kernel
theorem dX8_axis_72 : decode cX8_axis 72 = .ok (.aload_n 0, 1) := by decide +kernel
theorem dX8_axis_73 : decode cX8_axis 73 = .ok (.getfield 10, 3) := by decide +kernel
theorem dX8_axis_76 : decode cX8_axis 76 = .ok (.getfield 133, 3) := by decide +kernel
theorem dX8_axis_79 : decode cX8_axis 79 = .ok (.aload_n 0, 1) := by decide +kernel
theorem dX8_axis_80 : decode cX8_axis 80 = .ok (.getfield 10, 3) := by decide +kernel
theorem dX8_axis_83 : decode cX8_axis 83 = .ok (.getfield 136, 3) := by decide +kernel
theorem dX8_axis_86 : decode cX8_axis 86 = .ok (.isub, 1) := by decide +kernel
theorem dX8_axis_87 : decode cX8_axis 87 = .ok (.aload_n 0, 1) := by decide +kernel
theorem dX8_axis_88 : decode cX8_axis 88 = .ok (.getfield 10, 3) := by decide +kernel
theorem dX8_axis_91 : decode cX8_axis 91 = .ok (.getfield 139, 3) := by decide +kernel
theorem dX8_axis_94 : decode cX8_axis 94 = .ok (.isub, 1) := by decide +kernel
theorem dX8_axis_95 : decode cX8_axis 95 = .ok (.ireturn, 1) := by decide +kernel
theorem dX8_axis_96 : decode cX8_axis 96 = .ok (.aload_n 0, 1) := by decide +kernel
theorem dX8_axis_97 : decode cX8_axis 97 = .ok (.getfield 10, 3) := by decide +kernel
theorem dX8_axis_100 : decode cX8_axis 100 = .ok (.getfield 142, 3) := by decide +kernel
theorem dX8_axis_103 : decode cX8_axis 103 = .ok (.ifCond .eq 7, 3) := by decide +kernel
theorem dX8_axis_106 : decode cX8_axis 106 = .ok (.iconst 1, 1) := by decide +kernel
theorem dX8_axis_107 : decode cX8_axis 107 = .ok (.goto 4, 3) := by decide +kernel
theorem dX8_axis_110 : decode cX8_axis 110 = .ok (.iconst 0, 1) := by decide +kernel
theorem dX8_axis_111 : decode cX8_axis 111 = .ok (.ireturn, 1) := by decide +kernel
theorem dX8_axis_112 : decode cX8_axis 112 = .ok (.aload_n 0, 1) := by decide +kernel
theorem dX8_axis_113 : decode cX8_axis 113 = .ok (.getfield 10, 3) := by decide +kernel
theorem dX8_axis_116 : decode cX8_axis 116 = .ok (.getfield 146, 3) := by decide +kernel
theorem dX8_axis_119 : decode cX8_axis 119 = .ok (.ifCond .eq 7, 3) := by decide +kernel
theorem dX8_axis_122 : decode cX8_axis 122 = .ok (.iconst 1, 1) := by decide +kernel
theorem dX8_axis_123 : decode cX8_axis 123 = .ok (.goto 4, 3) := by decide +kernel
theorem dX8_axis_126 : decode cX8_axis 126 = .ok (.iconst 0, 1) := by decide +kernel
theorem dX8_axis_127 : decode cX8_axis 127 = .ok (.ireturn, 1) := by decide +kernel
theorem dX8_axis_128 : decode cX8_axis 128 = .ok (.aload_n 0, 1) := by decide +kernel
theorem dX8_axis_129 : decode cX8_axis 129 = .ok (.getfield 10, 3) := by decide +kernel
theorem dX8_axis_132 : decode cX8_axis 132 = .ok (.getfield 149, 3) := by decide +kernel
theorem dX8_axis_135 : decode cX8_axis 135 = .ok (.ireturn, 1) := by decide +kernel
theorem dX8_axis_136 : decode cX8_axis 136 = .ok (.aload_n 0, 1) := by decide +kernel
theorem dX8_axis_137 : decode cX8_axis 137 = .ok (.getfield 10, 3) := by decide +kernel
theorem dX8_axis_140 : decode cX8_axis 140 = .ok (.getfield 152, 3) := by decide +kernel
theorem dX8_axis_143 : decode cX8_axis 143 = .ok (.ireturn, 1) := by decide +kernel
theorem dX8_axis_144 : decode cX8_axis 144 = .ok (.aload_n 0, 1) := by decide +kernel
theorem dX8_axis_145 : decode cX8_axis 145 = .ok (.getfield 10, 3) := by decide +kernel
theorem dX8_axis_148 : decode cX8_axis 148 = .ok (.getfield 155, 3) := by decide +kernel
theorem dX8_axis_151 : decode cX8_axis 151 = .ok (.ireturn, 1) := by decide +kernel
theorem dX8_axis_152 : decode cX8_axis 152 = .ok (.aload_n 0, 1) := by decide +kernel
theorem dX8_axis_153 : decode cX8_axis 153 = .ok (.getfield 10, 3) := by decide +kernel
theorem dX8_axis_156 : decode cX8_axis 156 = .ok (.getfield 157, 3) := by decide +kernel
theorem dX8_axis_159 : decode cX8_axis 159 = .ok (.ireturn, 1) := by decide +kernel
theorem dX8_axis_160 : decode cX8_axis 160 = .ok (.aload_n 0, 1) := by decide +kernel
theorem dX8_axis_161 : decode cX8_axis 161 = .ok (.getfield 10, 3) := by decide +kernel
theorem dX8_axis_164 : decode cX8_axis 164 = .ok (.getfield 160, 3) := by decide +kernel
theorem dX8_axis_167 : decode cX8_axis 167 = .ok (.ireturn, 1) := by decide +kernel
theorem dX8_axis_168 : decode cX8_axis 168 = .ok (.ldc 85, 2) := by decide +kernel
theorem dX8_axis_170 : decode cX8_axis 170 = .ok (.ireturn, 1) := by decide +kernel
set_option maxRecDepth 20000 in
theorem ggX8_moveOf_X3_part : GoodIn wsX8_moveOf wsX3_part := goodIn_r _ [6, 7, 8, 9, 10, 11, 12, 13, 33, 34] (by decide +kernel) (by decide +kernel)
set_option maxRecDepth 20000 in
theorem gX8_moveOf_X3_part : GoodIn wsX8_moveOf (wsV RX8 163 RX3 yX3_part wsX3_part) := goodIn_app (goodIn_of _ (by decide +kernel)) ggX8_moveOf_X3_part
theorem dX8_moveOf_0 : decode cX8_moveOf 0 = .ok (.aload_n 0, 1) := by decide +kernel
theorem dX8_moveOf_1 : decode cX8_moveOf 1 = .ok (.getfield 10, 3) := by decide +kernel
theorem dX8_moveOf_4 : decode cX8_moveOf 4 = .ok (.getfield 123, 3) := by decide +kernel
theorem dX8_moveOf_7 : decode cX8_moveOf 7 = .ok (.iload_n 1, 1) := by decide +kernel
theorem dX8_moveOf_8 : decode cX8_moveOf 8 = .ok (.iload_n 2, 1) := by decide +kernel
theorem dX8_moveOf_9 : decode cX8_moveOf 9 = .ok (.invokevirtual 163, 3) := by decide +kernel
theorem dX8_moveOf_12 : decode cX8_moveOf 12 = .ok (.ireturn, 1) := by decide +kernel
set_option maxRecDepth 20000 in
theorem ggX8_count_X8_within : GoodIn wsX8_count wsX8_within := goodIn_r _ [8] (by decide +kernel) (by decide +kernel)
set_option maxRecDepth 20000 in
theorem gX8_count_X8_within : GoodIn wsX8_count (va_wsS RX8 78 yX8_within wsX8_within) := goodIn_app (goodIn_of _ (by decide +kernel)) ggX8_count_X8_within
theorem dX8_count_0 : decode cX8_count 0 = .ok (.iload_n 1, 1) := by decide +kernel
theorem dX8_count_1 : decode cX8_count 1 = .ok (.tableswitch 69 0 3 #[31, 42, 53, 61], 31) := by decide +kernel
theorem dX8_count_32 : decode cX8_count 32 = .ok (.aload_n 0, 1) := by decide +kernel
theorem dX8_count_33 : decode cX8_count 33 = .ok (.getfield 10, 3) := by decide +kernel
theorem dX8_count_36 : decode cX8_count 36 = .ok (.getfield 62, 3) := by decide +kernel
theorem dX8_count_39 : decode cX8_count 39 = .ok (.getfield 164, 3) := by decide +kernel
theorem dX8_count_42 : decode cX8_count 42 = .ok (.ireturn, 1) := by decide +kernel
theorem dX8_count_43 : decode cX8_count 43 = .ok (.aload_n 0, 1) := by decide +kernel
theorem dX8_count_44 : decode cX8_count 44 = .ok (.getfield 10, 3) := by decide +kernel
theorem dX8_count_47 : decode cX8_count 47 = .ok (.getfield 123, 3) := by decide +kernel
theorem dX8_count_50 : decode cX8_count 50 = .ok (.getfield 167, 3) := by decide +kernel
theorem dX8_count_53 : decode cX8_count 53 = .ok (.ireturn, 1) := by decide +kernel
theorem dX8_count_54 : decode cX8_count 54 = .ok (.aload_n 0, 1) := by decide +kernel
theorem dX8_count_55 : decode cX8_count 55 = .ok (.getfield 22, 3) := by decide +kernel
theorem dX8_count_58 : decode cX8_count 58 = .ok (.getfield 168, 3) := by decide +kernel
theorem dX8_count_61 : decode cX8_count 61 = .ok (.ireturn, 1) := by decide +kernel
theorem dX8_count_62 : decode cX8_count 62 = .ok (.aload_n 0, 1) := by decide +kernel
theorem dX8_count_63 : decode cX8_count 63 = .ok (.getfield 36, 3) := by decide +kernel
theorem dX8_count_66 : decode cX8_count 66 = .ok (.getfield 169, 3) := by decide +kernel
theorem dX8_count_69 : decode cX8_count 69 = .ok (.ireturn, 1) := by decide +kernel
theorem dX8_count_70 : decode cX8_count 70 = .ok (.iload_n 1, 1) := by decide +kernel
theorem dX8_count_71 : decode cX8_count 71 = .ok (.bipush 10, 2) := by decide +kernel
theorem dX8_count_73 : decode cX8_count 73 = .ok (.bipush 17, 2) := by decide +kernel
theorem dX8_count_75 : decode cX8_count 75 = .ok (.invokestatic 78, 3) := by decide +kernel
theorem dX8_count_78 : decode cX8_count 78 = .ok (.ifCond .eq 18, 3) := by decide +kernel
theorem dX8_count_81 : decode cX8_count 81 = .ok (.aload_n 0, 1) := by decide +kernel
theorem dX8_count_82 : decode cX8_count 82 = .ok (.getfield 10, 3) := by decide +kernel
theorem dX8_count_85 : decode cX8_count 85 = .ok (.getfield 172, 3) := by decide +kernel
theorem dX8_count_88 : decode cX8_count 88 = .ok (.iload_n 1, 1) := by decide +kernel
theorem dX8_count_89 : decode cX8_count 89 = .ok (.bipush 10, 2) := by decide +kernel
theorem dX8_count_91 : decode cX8_count 91 = .ok (.isub, 1) := by decide +kernel
theorem dX8_count_92 : decode cX8_count 92 = .ok (.iaload, 1) := by decide +kernel
theorem dX8_count_93 : decode cX8_count 93 = .ok (.goto 5, 3) := by decide +kernel
theorem dX8_count_96 : decode cX8_count 96 = .ok (.ldc 85, 2) := by decide +kernel
theorem dX8_count_98 : decode cX8_count 98 = .ok (.ireturn, 1) := by decide +kernel
set_option maxRecDepth 20000 in
theorem ggX8_wouldMiss_X8_begin : GoodIn wsX8_wouldMiss wsX8_begin := goodIn_r _ [6, 7, 8, 9, 10, 11, 12, 13, 14, 15, 16, 17, 18, 19, 20, 21, 22, 23, 24, 25, 26, 27, 28, 29, 30, 31, 32, 33, 34, 35, 36, 37, 38, 39, 40, 41, 42, 43, 44, 45, 46, 47, 48, 130, 131, 132, 133, 134, 135, 136, 137, 138, 139, 140, 141, 142, 143, 144, 145, 146, 147, 148, 149, 150, 151, 152, 153, 154] (by decide +kernel) (by decide +kernel)
set_option maxRecDepth 20000 in
theorem gX8_wouldMiss_X8_begin : GoodIn wsX8_wouldMiss (wsV RX8 47 RX8 yX8_begin wsX8_begin) := goodIn_app (goodIn_of _ (by decide +kernel)) ggX8_wouldMiss_X8_begin
set_option maxRecDepth 20000 in
theorem ggX8_wouldMiss_X0_goTo : GoodIn wsX8_wouldMiss wsX0_goTo := goodIn_r _ [53, 54, 55, 56, 57, 58, 59, 60, 61, 52, 62, 63, 64, 65, 5, 66, 67, 68, 69, 70, 71, 72, 73, 74, 75, 76, 77, 78, 79, 80, 81, 82, 83, 84, 85, 86, 87, 88, 89, 90, 91, 92, 93, 94, 95, 96, 97, 98, 99, 100, 12, 101, 24, 23, 19, 29, 28, 30, 102, 103, 104, 105, 106, 107, 34, 108, 40, 36, 38, 39, 109, 110, 111, 112, 14, 27, 113, 114, 115, 116, 117, 118, 119, 120, 121, 122, 123, 124, 125, 126, 127, 128, 44, 129, 46, 47, 16, 17, 18, 48, 155, 136, 137, 138, 139, 140, 141, 142, 143, 144, 145, 146, 147, 148, 156, 157, 158, 159, 160, 149, 150, 151, 152, 153, 154] (by decide +kernel) (by decide +kernel)
set_option maxRecDepth 20000 in
theorem gX8_wouldMiss_X0_goTo : GoodIn wsX8_wouldMiss (wsV RX8 112 RX0 yX0_goTo wsX0_goTo) := goodIn_app (goodIn_of _ (by decide +kernel)) ggX8_wouldMiss_X0_goTo
theorem dX8_wouldMiss_0 : decode cX8_wouldMiss 0 = .ok (.aload_n 0, 1) := by decide +kernel
theorem dX8_wouldMiss_1 : decode cX8_wouldMiss 1 = .ok (.getfield 29, 3) := by decide +kernel
theorem dX8_wouldMiss_4 : decode cX8_wouldMiss 4 = .ok (.aload_n 0, 1) := by decide +kernel
theorem dX8_wouldMiss_5 : decode cX8_wouldMiss 5 = .ok (.invokevirtual 47, 3) := by decide +kernel
theorem dX8_wouldMiss_8 : decode cX8_wouldMiss 8 = .ok (.iload_n 1, 1) := by decide +kernel
theorem dX8_wouldMiss_9 : decode cX8_wouldMiss 9 = .ok (.invokevirtual 112, 3) := by decide +kernel
theorem dX8_wouldMiss_12 : decode cX8_wouldMiss 12 = .ok (.ireturn, 1) := by decide +kernel
set_option maxRecDepth 20000 in
theorem ggX8_safe_X0_greatestSafe : GoodIn wsX8_safe wsX0_greatestSafe := goodIn_r _ [7, 8, 9, 10, 11, 12, 13, 14, 15, 16, 17, 18, 19, 6, 20, 21, 22, 23, 24, 25, 26, 27, 28, 29, 30, 31, 32, 33, 34, 35, 36, 37, 38, 39, 40, 41, 42, 43, 44, 45, 46, 47, 48, 49, 50, 51, 52, 53, 54, 55, 56, 57, 58, 59, 60, 61, 62, 63, 64, 65, 72, 73, 74, 75, 76, 77, 78, 79, 80, 81, 82, 83, 84, 85, 86, 87, 88, 89, 90, 91, 92, 93, 94] (by decide +kernel) (by decide +kernel)
set_option maxRecDepth 20000 in
theorem gX8_safe_X0_greatestSafe : GoodIn wsX8_safe (wsV RX8 176 RX0 yX0_greatestSafe wsX0_greatestSafe) := goodIn_app (goodIn_of _ (by decide +kernel)) ggX8_safe_X0_greatestSafe
theorem dX8_safe_0 : decode cX8_safe 0 = .ok (.aload_n 0, 1) := by decide +kernel
theorem dX8_safe_1 : decode cX8_safe 1 = .ok (.getfield 29, 3) := by decide +kernel
theorem dX8_safe_4 : decode cX8_safe 4 = .ok (.aload_n 0, 1) := by decide +kernel
theorem dX8_safe_5 : decode cX8_safe 5 = .ok (.getfield 10, 3) := by decide +kernel
theorem dX8_safe_8 : decode cX8_safe 8 = .ok (.iload_n 1, 1) := by decide +kernel
theorem dX8_safe_9 : decode cX8_safe 9 = .ok (.invokevirtual 176, 3) := by decide +kernel
theorem dX8_safe_12 : decode cX8_safe 12 = .ok (.ireturn, 1) := by decide +kernel
set_option maxRecDepth 20000 in
theorem ggX8_firstMiss_X0_firstMissPlace : GoodIn wsX8_firstMiss wsX0_firstMissPlace := goodIn_r _ [7, 8, 9, 10, 11, 12, 13, 14, 15, 16, 6, 17, 18, 19, 20, 21, 22, 23, 24, 25, 26, 27, 28, 29, 30, 31, 32, 33, 34, 35, 36, 37, 38, 39, 40, 41, 42, 43, 44, 45, 46, 47, 48, 49, 50, 51, 52, 53, 54, 55, 56, 57, 58, 59, 60, 67, 68, 69, 70, 71, 72, 73, 74, 75, 76, 77, 78, 79, 80, 81, 82, 83, 84, 85, 86, 87, 88, 89] (by decide +kernel) (by decide +kernel)
set_option maxRecDepth 20000 in
theorem gX8_firstMiss_X0_firstMissPlace : GoodIn wsX8_firstMiss (wsV RX8 179 RX0 yX0_firstMissPlace wsX0_firstMissPlace) := goodIn_app (goodIn_of _ (by decide +kernel)) ggX8_firstMiss_X0_firstMissPlace
theorem dX8_firstMiss_0 : decode cX8_firstMiss 0 = .ok (.aload_n 0, 1) := by decide +kernel
theorem dX8_firstMiss_1 : decode cX8_firstMiss 1 = .ok (.getfield 29, 3) := by decide +kernel
theorem dX8_firstMiss_4 : decode cX8_firstMiss 4 = .ok (.aload_n 0, 1) := by decide +kernel
theorem dX8_firstMiss_5 : decode cX8_firstMiss 5 = .ok (.getfield 10, 3) := by decide +kernel
theorem dX8_firstMiss_8 : decode cX8_firstMiss 8 = .ok (.iload_n 1, 1) := by decide +kernel
theorem dX8_firstMiss_9 : decode cX8_firstMiss 9 = .ok (.invokevirtual 179, 3) := by decide +kernel
theorem dX8_firstMiss_12 : decode cX8_firstMiss 12 = .ok (.ireturn, 1) := by decide +kernel
set_option maxRecDepth 20000 in
theorem ggX8_speedBits_X3_speed : GoodIn wsX8_speedBits wsX3_speed := goodIn_r _ [6, 7, 8, 9, 10, 11, 12, 13, 14, 15, 16, 5, 17, 18, 19, 20, 21, 22, 23, 24, 25, 26, 46, 47] (by decide +kernel) (by decide +kernel)
set_option maxRecDepth 20000 in
theorem gX8_speedBits_X3_speed : GoodIn wsX8_speedBits (wsV RX8 182 RX3 yX3_speed wsX3_speed) := goodIn_app (goodIn_of _ (by decide +kernel)) ggX8_speedBits_X3_speed
theorem dX8_speedBits_0 : decode cX8_speedBits 0 = .ok (.aload_n 0, 1) := by decide +kernel
theorem dX8_speedBits_1 : decode cX8_speedBits 1 = .ok (.getfield 10, 3) := by decide +kernel
theorem dX8_speedBits_4 : decode cX8_speedBits 4 = .ok (.getfield 123, 3) := by decide +kernel
theorem dX8_speedBits_7 : decode cX8_speedBits 7 = .ok (.iload_n 1, 1) := by decide +kernel
theorem dX8_speedBits_8 : decode cX8_speedBits 8 = .ok (.invokevirtual 182, 3) := by decide +kernel
theorem dX8_speedBits_11 : decode cX8_speedBits 11 = .ok (.ireturn, 1) := by decide +kernel
set_option maxRecDepth 20000 in
theorem ggX8_undo_X1_restore : GoodIn wsX8_undo wsX1_restore := goodIn_r _ [7, 8, 9, 10, 11, 12, 13, 14, 15, 16, 17, 18, 19, 20, 21, 22, 23, 24, 25, 26, 27, 28, 29, 30, 31, 32, 33, 34, 35, 36, 37, 38, 39, 40, 41, 42, 43, 44, 45, 46, 47, 48, 49, 50, 57, 58, 59, 60, 61, 62, 63, 64, 65, 66, 67, 68, 69, 70, 71, 72, 73, 74, 75, 76, 77] (by decide +kernel) (by decide +kernel)
set_option maxRecDepth 20000 in
theorem gX8_undo_X1_restore : GoodIn wsX8_undo (wsV RX8 185 RX1 yX1_restore wsX1_restore) := goodIn_app (goodIn_of _ (by decide +kernel)) ggX8_undo_X1_restore
theorem dX8_undo_0 : decode cX8_undo 0 = .ok (.aload_n 0, 1) := by decide +kernel
theorem dX8_undo_1 : decode cX8_undo 1 = .ok (.getfield 22, 3) := by decide +kernel
theorem dX8_undo_4 : decode cX8_undo 4 = .ok (.aload_n 0, 1) := by decide +kernel
theorem dX8_undo_5 : decode cX8_undo 5 = .ok (.getfield 10, 3) := by decide +kernel
theorem dX8_undo_8 : decode cX8_undo 8 = .ok (.invokevirtual 185, 3) := by decide +kernel
theorem dX8_undo_11 : decode cX8_undo 11 = .ok (.ireturn, 1) := by decide +kernel
set_option maxRecDepth 20000 in
theorem ggX8_type_X6_append : GoodIn wsX8_type wsX6_append := goodIn_r _ [6, 7, 8, 9, 10, 11, 12, 13, 20, 21, 22, 23, 24, 25] (by decide +kernel) (by decide +kernel)
set_option maxRecDepth 20000 in
theorem gX8_type_X6_append : GoodIn wsX8_type (wsV RX8 188 RX6 yX6_append wsX6_append) := goodIn_app (goodIn_of _ (by decide +kernel)) ggX8_type_X6_append
theorem dX8_type_0 : decode cX8_type 0 = .ok (.aload_n 0, 1) := by decide +kernel
theorem dX8_type_1 : decode cX8_type 1 = .ok (.getfield 36, 3) := by decide +kernel
theorem dX8_type_4 : decode cX8_type 4 = .ok (.iload_n 1, 1) := by decide +kernel
theorem dX8_type_5 : decode cX8_type 5 = .ok (.invokevirtual 188, 3) := by decide +kernel
theorem dX8_type_8 : decode cX8_type 8 = .ok (.ireturn, 1) := by decide +kernel
set_option maxRecDepth 20000 in
theorem ggX8_clearText_X6_empty : GoodIn wsX8_clearText wsX6_empty := goodIn_r _ [6, 7, 14, 15, 16, 17, 18, 19] (by decide +kernel) (by decide +kernel)
set_option maxRecDepth 20000 in
theorem gX8_clearText_X6_empty : GoodIn wsX8_clearText (wsV RX8 191 RX6 yX6_empty wsX6_empty) := goodIn_app (goodIn_of _ (by decide +kernel)) ggX8_clearText_X6_empty
theorem dX8_clearText_0 : decode cX8_clearText 0 = .ok (.aload_n 0, 1) := by decide +kernel
theorem dX8_clearText_1 : decode cX8_clearText 1 = .ok (.getfield 36, 3) := by decide +kernel
theorem dX8_clearText_4 : decode cX8_clearText 4 = .ok (.invokevirtual 191, 3) := by decide +kernel
theorem dX8_clearText_7 : decode cX8_clearText 7 = .ok (.ireturn, 1) := by decide +kernel
set_option maxRecDepth 20000 in
theorem ggX8_fault_X8_within : GoodIn wsX8_fault wsX8_within := goodIn_r _ [9] (by decide +kernel) (by decide +kernel)
set_option maxRecDepth 20000 in
theorem gX8_fault_X8_within : GoodIn wsX8_fault (va_wsS RX8 78 yX8_within wsX8_within) := goodIn_app (goodIn_of _ (by decide +kernel)) ggX8_fault_X8_within
set_option maxRecDepth 20000 in
theorem ggX8_fault_X8_begin : GoodIn wsX8_fault wsX8_begin := goodIn_r _ [13, 14, 15, 16, 17, 18, 19, 20, 21, 22, 23, 24, 25, 26, 27, 28, 29, 30, 31, 32, 33, 34, 35, 36, 37, 38, 39, 40, 41, 42, 43, 44, 45, 46, 47, 48, 49, 50, 51, 52, 53, 54, 55, 224, 225, 226, 227, 228, 229, 234, 235, 236, 237, 238, 239, 240, 241, 242, 243, 244, 245, 246, 247, 248, 249, 250, 251, 252] (by decide +kernel) (by decide +kernel)
set_option maxRecDepth 20000 in
theorem gX8_fault_X8_begin : GoodIn wsX8_fault (wsV RX8 47 RX8 yX8_begin wsX8_begin) := goodIn_app (goodIn_of _ (by decide +kernel)) ggX8_fault_X8_begin
set_option maxRecDepth 20000 in
theorem ggX8_fault_X5_run : GoodIn wsX8_fault wsX5_run := goodIn_r _ [60, 61, 62, 63, 64, 65, 66, 67, 68, 69, 70, 71, 72, 73, 74, 75, 76, 77, 78, 79, 80, 81, 82, 83, 84, 85, 86, 87, 88, 89, 90, 91, 92, 93, 94, 95, 96, 97, 7, 8, 9, 98, 99, 100, 101, 102, 103, 104, 105, 59, 106, 107, 108, 109, 110, 111, 112, 113, 114, 115, 116, 117, 118, 119, 120, 121, 122, 123, 124, 125, 126, 127, 128, 129, 130, 131, 132, 133, 134, 135, 136, 137, 138, 139, 140, 141, 142, 143, 144, 145, 146, 147, 148, 149, 150, 151, 152, 153, 154, 155, 156, 19, 157, 31, 30, 26, 36, 35, 37, 158, 159, 160, 161, 162, 163, 41, 164, 47, 43, 45, 46, 165, 166, 167, 168, 21, 34, 169, 170, 171, 172, 173, 174, 175, 176, 177, 178, 179, 180, 181, 182, 183, 184, 51, 185, 53, 54, 23, 24, 25, 55, 186, 187, 188, 189, 190, 191, 192, 193, 194, 195, 196, 197, 198, 199, 200, 201, 202, 203, 204, 205, 206, 207, 208, 209, 210, 211, 212, 33, 32, 213, 214, 215, 216, 217, 218, 219, 220, 221, 222, 223, 1, 230, 231, 232, 233, 253, 254, 255, 256, 257, 258, 234, 235, 236, 237, 238, 239, 240, 241, 242, 243, 244, 245, 246, 259, 260, 261, 262, 263, 264, 247, 248, 249, 250, 251, 252] (by decide +kernel) (by decide +kernel)
set_option maxRecDepth 20000 in
theorem gX8_fault_X5_run : GoodIn wsX8_fault (wsV RX8 192 RX5 yX5_run wsX5_run) := goodIn_app (goodIn_of _ (by decide +kernel)) ggX8_fault_X5_run
theorem dX8_fault_0 : decode cX8_fault 0 = .ok (.iload_n 1, 1) := by decide +kernel
theorem dX8_fault_1 : decode cX8_fault 1 = .ok (.iconst 0, 1) := by decide +kernel
theorem dX8_fault_2 : decode cX8_fault 2 = .ok (.iconst 2, 1) := by decide +kernel
theorem dX8_fault_3 : decode cX8_fault 3 = .ok (.invokestatic 78, 3) := by decide +kernel
theorem dX8_fault_6 : decode cX8_fault 6 = .ok (.ifCond .ne 6, 3) := by decide +kernel
theorem dX8_fault_9 : decode cX8_fault 9 = .ok (.ldc 85, 2) := by decide +kernel
theorem dX8_fault_11 : decode cX8_fault 11 = .ok (.ireturn, 1) := by decide +kernel
theorem dX8_fault_12 : decode cX8_fault 12 = .ok (.aload_n 0, 1) := by decide +kernel
theorem dX8_fault_13 : decode cX8_fault 13 = .ok (.getfield 43, 3) := by decide +kernel
theorem dX8_fault_16 : decode cX8_fault 16 = .ok (.aload_n 0, 1) := by decide +kernel
theorem dX8_fault_17 : decode cX8_fault 17 = .ok (.getfield 36, 3) := by decide +kernel
theorem dX8_fault_20 : decode cX8_fault 20 = .ok (.aload_n 0, 1) := by decide +kernel
theorem dX8_fault_21 : decode cX8_fault 21 = .ok (.invokevirtual 47, 3) := by decide +kernel
theorem dX8_fault_24 : decode cX8_fault 24 = .ok (.aload_n 0, 1) := by decide +kernel
theorem dX8_fault_25 : decode cX8_fault 25 = .ok (.getfield 29, 3) := by decide +kernel
theorem dX8_fault_28 : decode cX8_fault 28 = .ok (.invokevirtual 192, 3) := by decide +kernel
theorem dX8_fault_31 : decode cX8_fault 31 = .ok (.aload_n 0, 1) := by decide +kernel
theorem dX8_fault_32 : decode cX8_fault 32 = .ok (.getfield 43, 3) := by decide +kernel
theorem dX8_fault_35 : decode cX8_fault 35 = .ok (.getfield 196, 3) := by decide +kernel
theorem dX8_fault_38 : decode cX8_fault 38 = .ok (.ifCond .ne 6, 3) := by decide +kernel
theorem dX8_fault_41 : decode cX8_fault 41 = .ok (.ldc 96, 2) := by decide +kernel
theorem dX8_fault_43 : decode cX8_fault 43 = .ok (.ireturn, 1) := by decide +kernel
theorem dX8_fault_44 : decode cX8_fault 44 = .ok (.iload_n 1, 1) := by decide +kernel
theorem dX8_fault_45 : decode cX8_fault 45 = .ok (.ifCond .ne 11, 3) := by decide +kernel
theorem dX8_fault_48 : decode cX8_fault 48 = .ok (.aload_n 0, 1) := by decide +kernel
theorem dX8_fault_49 : decode cX8_fault 49 = .ok (.getfield 43, 3) := by decide +kernel
theorem dX8_fault_52 : decode cX8_fault 52 = .ok (.getfield 199, 3) := by decide +kernel
theorem dX8_fault_55 : decode cX8_fault 55 = .ok (.ireturn, 1) := by decide +kernel
theorem dX8_fault_56 : decode cX8_fault 56 = .ok (.iload_n 1, 1) := by decide +kernel
theorem dX8_fault_57 : decode cX8_fault 57 = .ok (.iconst 1, 1) := by decide +kernel
theorem dX8_fault_58 : decode cX8_fault 58 = .ok (.if_icmp .ne 11, 3) := by decide +kernel
theorem dX8_fault_61 : decode cX8_fault 61 = .ok (.aload_n 0, 1) := by decide +kernel
theorem dX8_fault_62 : decode cX8_fault 62 = .ok (.getfield 43, 3) := by decide +kernel
theorem dX8_fault_65 : decode cX8_fault 65 = .ok (.getfield 196, 3) := by decide +kernel
theorem dX8_fault_68 : decode cX8_fault 68 = .ok (.ireturn, 1) := by decide +kernel
theorem dX8_fault_69 : decode cX8_fault 69 = .ok (.aload_n 0, 1) := by decide +kernel
theorem dX8_fault_70 : decode cX8_fault 70 = .ok (.getfield 43, 3) := by decide +kernel
theorem dX8_fault_73 : decode cX8_fault 73 = .ok (.getfield 196, 3) := by decide +kernel
theorem dX8_fault_76 : decode cX8_fault 76 = .ok (.iconst 2, 1) := by decide +kernel
theorem dX8_fault_77 : decode cX8_fault 77 = .ok (.if_icmp .ne 13, 3) := by decide +kernel
theorem dX8_fault_80 : decode cX8_fault 80 = .ok (.aload_n 0, 1) := by decide +kernel
theorem dX8_fault_81 : decode cX8_fault 81 = .ok (.getfield 43, 3) := by decide +kernel
theorem dX8_fault_84 : decode cX8_fault 84 = .ok (.getfield 202, 3) := by decide +kernel
theorem dX8_fault_87 : decode cX8_fault 87 = .ok (.goto 5, 3) := by decide +kernel
theorem dX8_fault_90 : decode cX8_fault 90 = .ok (.ldc 96, 2) := by decide +kernel
theorem dX8_fault_92 : decode cX8_fault 92 = .ok (.ireturn, 1) := by decide +kernel
set_option maxRecDepth 20000 in
theorem ggX8_play_X8_begin : GoodIn wsX8_play wsX8_begin := goodIn_r _ [9, 10, 11, 12, 13, 14, 15, 16, 17, 18, 19, 20, 21, 22, 23, 24, 25, 26, 27, 28, 29, 30, 31, 32, 33, 34, 35, 36, 37, 38, 39, 40, 41, 42, 43, 44, 45, 46, 47, 48, 49, 50, 51, 241, 242, 243, 244, 245, 246, 251, 252, 253, 254, 255, 256, 257, 258, 259, 260, 261, 262, 263, 264, 265, 266, 267, 268, 269] (by decide +kernel) (by decide +kernel)
set_option maxRecDepth 20000 in
theorem gX8_play_X8_begin : GoodIn wsX8_play (wsV RX8 47 RX8 yX8_begin wsX8_begin) := goodIn_app (goodIn_of _ (by decide +kernel)) ggX8_play_X8_begin
set_option maxRecDepth 20000 in
theorem ggX8_play_X5_run : GoodIn wsX8_play wsX5_run := goodIn_r _ [56, 57, 58, 59, 60, 61, 62, 63, 64, 65, 66, 67, 68, 69, 70, 71, 72, 73, 74, 75, 76, 77, 78, 79, 80, 81, 82, 83, 84, 85, 86, 87, 88, 89, 90, 91, 92, 93, 94, 8, 95, 96, 97, 98, 99, 100, 101, 102, 103, 55, 104, 105, 106, 107, 108, 109, 110, 111, 112, 113, 114, 115, 116, 117, 118, 119, 120, 121, 122, 123, 124, 125, 126, 127, 128, 129, 130, 131, 132, 133, 134, 135, 136, 137, 138, 139, 140, 141, 142, 143, 144, 145, 146, 147, 148, 149, 150, 151, 152, 153, 154, 15, 155, 27, 26, 22, 32, 31, 33, 156, 157, 158, 159, 160, 161, 37, 162, 43, 39, 41, 42, 163, 164, 165, 166, 17, 30, 167, 168, 169, 170, 171, 172, 173, 174, 175, 176, 177, 178, 179, 180, 181, 182, 47, 183, 49, 50, 19, 20, 21, 51, 184, 185, 186, 187, 188, 189, 190, 191, 192, 193, 194, 195, 196, 197, 198, 199, 200, 201, 202, 203, 204, 205, 206, 207, 208, 209, 210, 29, 28, 211, 212, 213, 214, 215, 216, 217, 218, 219, 220, 221, 222, 247, 248, 249, 250, 270, 271, 272, 273, 274, 275, 251, 252, 253, 254, 255, 256, 257, 258, 259, 260, 261, 262, 263, 276, 277, 278, 279, 280, 281, 264, 265, 266, 267, 268, 269] (by decide +kernel) (by decide +kernel)
set_option maxRecDepth 20000 in
theorem gX8_play_X5_run : GoodIn wsX8_play (wsV RX8 192 RX5 yX5_run wsX5_run) := goodIn_app (goodIn_of _ (by decide +kernel)) ggX8_play_X5_run
set_option maxRecDepth 20000 in
theorem ggX8_play_X8_settle : GoodIn wsX8_play wsX8_settle := goodIn_r _ [226, 227, 11, 10, 228, 220, 8, 221, 222, 229, 230, 231, 232, 233, 234, 235, 236, 237, 238, 239, 240, 13, 14, 15, 16, 17, 18, 19, 20, 21, 22, 23, 24, 25, 26, 27, 28, 29, 30, 31, 32, 33, 34, 35, 36, 37, 38, 39, 40, 41, 42, 43, 44, 45, 46, 47, 48, 49, 50, 51, 12, 241, 242, 243, 244, 245, 246, 282, 283, 251, 252, 253, 254, 255, 256, 257, 258, 259, 260, 261, 262, 263, 264, 265, 266, 267, 268, 269] (by decide +kernel) (by decide +kernel)
set_option maxRecDepth 20000 in
theorem gX8_play_X8_settle : GoodIn wsX8_play (wsV RX8 55 RX8 yX8_settle wsX8_settle) := goodIn_app (goodIn_of _ (by decide +kernel)) ggX8_play_X8_settle
theorem dX8_play_0 : decode cX8_play 0 = .ok (.aload_n 0, 1) := by decide +kernel
theorem dX8_play_1 : decode cX8_play 1 = .ok (.getfield 43, 3) := by decide +kernel
theorem dX8_play_4 : decode cX8_play 4 = .ok (.aload_n 0, 1) := by decide +kernel
theorem dX8_play_5 : decode cX8_play 5 = .ok (.getfield 36, 3) := by decide +kernel
theorem dX8_play_8 : decode cX8_play 8 = .ok (.aload_n 0, 1) := by decide +kernel
theorem dX8_play_9 : decode cX8_play 9 = .ok (.invokevirtual 47, 3) := by decide +kernel
theorem dX8_play_12 : decode cX8_play 12 = .ok (.aload_n 0, 1) := by decide +kernel
theorem dX8_play_13 : decode cX8_play 13 = .ok (.getfield 29, 3) := by decide +kernel
theorem dX8_play_16 : decode cX8_play 16 = .ok (.invokevirtual 192, 3) := by decide +kernel
theorem dX8_play_19 : decode cX8_play 19 = .ok (.aload_n 0, 1) := by decide +kernel
theorem dX8_play_20 : decode cX8_play 20 = .ok (.aload_n 0, 1) := by decide +kernel
theorem dX8_play_21 : decode cX8_play 21 = .ok (.getfield 43, 3) := by decide +kernel
theorem dX8_play_24 : decode cX8_play 24 = .ok (.getfield 196, 3) := by decide +kernel
theorem dX8_play_27 : decode cX8_play 27 = .ok (.ifCond .ne 13, 3) := by decide +kernel
theorem dX8_play_30 : decode cX8_play 30 = .ok (.aload_n 0, 1) := by decide +kernel
theorem dX8_play_31 : decode cX8_play 31 = .ok (.getfield 43, 3) := by decide +kernel
theorem dX8_play_34 : decode cX8_play 34 = .ok (.getfield 205, 3) := by decide +kernel
theorem dX8_play_37 : decode cX8_play 37 = .ok (.goto 5, 3) := by decide +kernel
theorem dX8_play_40 : decode cX8_play 40 = .ok (.ldc 208, 2) := by decide +kernel
theorem dX8_play_42 : decode cX8_play 42 = .ok (.invokevirtual 55, 3) := by decide +kernel
theorem dX8_play_45 : decode cX8_play 45 = .ok (.ireturn, 1) := by decide +kernel
set_option maxRecDepth 20000 in
theorem ggX8_begin_X7_copyFrom : GoodIn wsX8_begin wsX7_copyFrom := goodIn_r _ [7, 8, 9, 10, 11, 12, 13, 14, 15, 16, 17, 18, 19, 20, 21, 22, 23, 24, 25, 26, 27, 28, 29, 30, 31, 32, 33, 34, 35, 36, 37, 38, 39, 40, 41, 42, 49, 50, 51, 52, 53, 54, 55, 56, 57, 58, 59, 60, 61, 62, 63, 64, 65, 66, 67] (by decide +kernel) (by decide +kernel)
set_option maxRecDepth 20000 in
theorem gX8_begin_X7_copyFrom : GoodIn wsX8_begin (wsV RX8 209 RX7 yX7_copyFrom wsX7_copyFrom) := goodIn_app (goodIn_of _ (by decide +kernel)) ggX8_begin_X7_copyFrom
theorem dX8_begin_0 : decode cX8_begin 0 = .ok (.aload_n 0, 1) := by decide +kernel
theorem dX8_begin_1 : decode cX8_begin 1 = .ok (.getfield 16, 3) := by decide +kernel
theorem dX8_begin_4 : decode cX8_begin 4 = .ok (.aload_n 0, 1) := by decide +kernel
theorem dX8_begin_5 : decode cX8_begin 5 = .ok (.getfield 10, 3) := by decide +kernel
theorem dX8_begin_8 : decode cX8_begin 8 = .ok (.invokevirtual 209, 3) := by decide +kernel
theorem dX8_begin_11 : decode cX8_begin 11 = .ok (.aload_n 0, 1) := by decide +kernel
theorem dX8_begin_12 : decode cX8_begin 12 = .ok (.getfield 16, 3) := by decide +kernel
theorem dX8_begin_15 : decode cX8_begin 15 = .ok (.areturn, 1) := by decide +kernel
set_option maxRecDepth 20000 in
theorem ggX8_settle_X8_isError : GoodIn wsX8_settle wsX8_isError := goodIn_r _ [7, 8] (by decide +kernel) (by decide +kernel)
set_option maxRecDepth 20000 in
theorem gX8_settle_X8_isError : GoodIn wsX8_settle (va_wsS RX8 213 yX8_isError wsX8_isError) := goodIn_app (goodIn_of _ (by decide +kernel)) ggX8_settle_X8_isError
set_option maxRecDepth 20000 in
theorem ggX8_settle_X1_keep : GoodIn wsX8_settle wsX1_keep := goodIn_r _ [13, 14, 15, 16, 17, 18, 12, 19, 20, 21, 22, 23, 24, 25, 26, 27, 28, 29, 30, 31, 32, 33, 34, 35, 36, 37, 38, 39, 40, 41, 42, 43, 44, 45, 46, 47, 48, 49, 50, 51, 52, 53, 54, 55, 56, 57, 58, 59, 67, 68, 69, 70, 71, 72, 73, 74, 75, 76, 77, 78, 79, 80, 81, 82, 83, 84, 85, 86, 87] (by decide +kernel) (by decide +kernel)
set_option maxRecDepth 20000 in
theorem gX8_settle_X1_keep : GoodIn wsX8_settle (wsV RX8 217 RX1 yX1_keep wsX1_keep) := goodIn_app (goodIn_of _ (by decide +kernel)) ggX8_settle_X1_keep
set_option maxRecDepth 20000 in
theorem ggX8_settle_X7_copyFrom : GoodIn wsX8_settle wsX7_copyFrom := goodIn_r _ [24, 25, 26, 27, 28, 29, 30, 31, 32, 33, 34, 35, 36, 37, 38, 39, 40, 41, 42, 43, 44, 45, 46, 47, 48, 49, 50, 51, 52, 53, 54, 55, 56, 57, 58, 59, 69, 70, 71, 72, 73, 74, 75, 76, 77, 78, 79, 80, 81, 82, 83, 84, 85, 86, 87] (by decide +kernel) (by decide +kernel)
set_option maxRecDepth 20000 in
theorem gX8_settle_X7_copyFrom : GoodIn wsX8_settle (wsV RX8 209 RX7 yX7_copyFrom wsX7_copyFrom) := goodIn_app (goodIn_of _ (by decide +kernel)) ggX8_settle_X7_copyFrom
theorem dX8_settle_0 : decode cX8_settle 0 = .ok (.iload_n 1, 1) := by decide +kernel
theorem dX8_settle_1 : decode cX8_settle 1 = .ok (.invokestatic 213, 3) := by decide +kernel
theorem dX8_settle_4 : decode cX8_settle 4 = .ok (.ifCond .ne 25, 3) := by decide +kernel
theorem dX8_settle_7 : decode cX8_settle 7 = .ok (.aload_n 0, 1) := by decide +kernel
theorem dX8_settle_8 : decode cX8_settle 8 = .ok (.getfield 22, 3) := by decide +kernel
theorem dX8_settle_11 : decode cX8_settle 11 = .ok (.aload_n 0, 1) := by decide +kernel
theorem dX8_settle_12 : decode cX8_settle 12 = .ok (.getfield 10, 3) := by decide +kernel
theorem dX8_settle_15 : decode cX8_settle 15 = .ok (.invokevirtual 217, 3) := by decide +kernel
theorem dX8_settle_18 : decode cX8_settle 18 = .ok (.aload_n 0, 1) := by decide +kernel
theorem dX8_settle_19 : decode cX8_settle 19 = .ok (.getfield 10, 3) := by decide +kernel
theorem dX8_settle_22 : decode cX8_settle 22 = .ok (.aload_n 0, 1) := by decide +kernel
theorem dX8_settle_23 : decode cX8_settle 23 = .ok (.getfield 16, 3) := by decide +kernel
theorem dX8_settle_26 : decode cX8_settle 26 = .ok (.invokevirtual 209, 3) := by decide +kernel
theorem dX8_settle_29 : decode cX8_settle 29 = .ok (.iload_n 1, 1) := by decide +kernel
theorem dX8_settle_30 : decode cX8_settle 30 = .ok (.ireturn, 1) := by decide +kernel
theorem dX8_isError_0 : decode cX8_isError 0 = .ok (.iload_n 0, 1) := by decide +kernel
theorem dX8_isError_1 : decode cX8_isError 1 = .ok (.ldc 85, 2) := by decide +kernel
theorem dX8_isError_3 : decode cX8_isError 3 = .ok (.if_icmp .gt 7, 3) := by decide +kernel
theorem dX8_isError_6 : decode cX8_isError 6 = .ok (.iconst 1, 1) := by decide +kernel
theorem dX8_isError_7 : decode cX8_isError 7 = .ok (.goto 4, 3) := by decide +kernel
theorem dX8_isError_10 : decode cX8_isError 10 = .ok (.iconst 0, 1) := by decide +kernel
theorem dX8_isError_11 : decode cX8_isError 11 = .ok (.ireturn, 1) := by decide +kernel
theorem dX8_within_0 : decode cX8_within 0 = .ok (.iload_n 0, 1) := by decide +kernel
theorem dX8_within_1 : decode cX8_within 1 = .ok (.iload_n 1, 1) := by decide +kernel
theorem dX8_within_2 : decode cX8_within 2 = .ok (.if_icmp .lt 12, 3) := by decide +kernel
theorem dX8_within_5 : decode cX8_within 5 = .ok (.iload_n 0, 1) := by decide +kernel
theorem dX8_within_6 : decode cX8_within 6 = .ok (.iload_n 2, 1) := by decide +kernel
theorem dX8_within_7 : decode cX8_within 7 = .ok (.if_icmp .gt 7, 3) := by decide +kernel
theorem dX8_within_10 : decode cX8_within 10 = .ok (.iconst 1, 1) := by decide +kernel
theorem dX8_within_11 : decode cX8_within 11 = .ok (.goto 4, 3) := by decide +kernel
theorem dX8_within_14 : decode cX8_within 14 = .ok (.iconst 0, 1) := by decide +kernel
theorem dX8_within_15 : decode cX8_within 15 = .ok (.ireturn, 1) := by decide +kernel
theorem dX8_isBeyondEnd_0 : decode cX8_isBeyondEnd 0 = .ok (.iload_n 0, 1) := by decide +kernel
theorem dX8_isBeyondEnd_1 : decode cX8_isBeyondEnd 1 = .ok (.sipush (-3000), 3) := by decide +kernel
theorem dX8_isBeyondEnd_4 : decode cX8_isBeyondEnd 4 = .ok (.if_icmp .lt 10, 3) := by decide +kernel
theorem dX8_isBeyondEnd_7 : decode cX8_isBeyondEnd 7 = .ok (.iload_n 0, 1) := by decide +kernel
theorem dX8_isBeyondEnd_8 : decode cX8_isBeyondEnd 8 = .ok (.sipush 3000, 3) := by decide +kernel
theorem dX8_isBeyondEnd_11 : decode cX8_isBeyondEnd 11 = .ok (.if_icmp .le 7, 3) := by decide +kernel
theorem dX8_isBeyondEnd_14 : decode cX8_isBeyondEnd 14 = .ok (.iconst 1, 1) := by decide +kernel
theorem dX8_isBeyondEnd_15 : decode cX8_isBeyondEnd 15 = .ok (.goto 4, 3) := by decide +kernel
theorem dX8_isBeyondEnd_18 : decode cX8_isBeyondEnd 18 = .ok (.iconst 0, 1) := by decide +kernel
theorem dX8_isBeyondEnd_19 : decode cX8_isBeyondEnd 19 = .ok (.ireturn, 1) := by decide +kernel
theorem dX9_init_0 : decode cX9_init 0 = .ok (.aload_n 0, 1) := by decide +kernel
theorem dX9_init_1 : decode cX9_init 1 = .ok (.invokespecial 1, 3) := by decide +kernel
theorem dX9_init_4 : decode cX9_init 4 = .ok (.aload_n 0, 1) := by decide +kernel
theorem dX9_init_5 : decode cX9_init 5 = .ok (.bipush 63, 2) := by decide +kernel
theorem dX9_init_7 : decode cX9_init 7 = .ok (.newarray .int, 2) := by decide +kernel
theorem dX9_init_9 : decode cX9_init 9 = .ok (.putfield 7, 3) := by decide +kernel
theorem dX9_init_12 : decode cX9_init 12 = .ok (.aload_n 0, 1) := by decide +kernel
theorem dX9_init_13 : decode cX9_init 13 = .ok (.sipush 252, 3) := by decide +kernel
theorem dX9_init_16 : decode cX9_init 16 = .ok (.newarray .int, 2) := by decide +kernel
theorem dX9_init_18 : decode cX9_init 18 = .ok (.putfield 13, 3) := by decide +kernel
theorem dX9_init_21 : decode cX9_init 21 = .ok (.aload_n 0, 1) := by decide +kernel
theorem dX9_init_22 : decode cX9_init 22 = .ok (.bipush 63, 2) := by decide +kernel
theorem dX9_init_24 : decode cX9_init 24 = .ok (.newarray .int, 2) := by decide +kernel
theorem dX9_init_26 : decode cX9_init 26 = .ok (.putfield 16, 3) := by decide +kernel
theorem dX9_init_29 : decode cX9_init 29 = .ok (.aload_n 0, 1) := by decide +kernel
theorem dX9_init_30 : decode cX9_init 30 = .ok (.bipush 63, 2) := by decide +kernel
theorem dX9_init_32 : decode cX9_init 32 = .ok (.newarray .int, 2) := by decide +kernel
theorem dX9_init_34 : decode cX9_init 34 = .ok (.putfield 19, 3) := by decide +kernel
theorem dX9_init_37 : decode cX9_init 37 = .ok (.aload_n 0, 1) := by decide +kernel
theorem dX9_init_38 : decode cX9_init 38 = .ok (.bipush 60, 2) := by decide +kernel
theorem dX9_init_40 : decode cX9_init 40 = .ok (.newarray .int, 2) := by decide +kernel
theorem dX9_init_42 : decode cX9_init 42 = .ok (.putfield 22, 3) := by decide +kernel
theorem dX9_init_45 : decode cX9_init 45 = .ok (.aload_n 0, 1) := by decide +kernel
theorem dX9_init_46 : decode cX9_init 46 = .ok (.sipush 201, 3) := by decide +kernel
theorem dX9_init_49 : decode cX9_init 49 = .ok (.newarray .int, 2) := by decide +kernel
theorem dX9_init_51 : decode cX9_init 51 = .ok (.putfield 25, 3) := by decide +kernel
theorem dX9_init_54 : decode cX9_init 54 = .ok (.aload_n 0, 1) := by decide +kernel
theorem dX9_init_55 : decode cX9_init 55 = .ok (.sipush 201, 3) := by decide +kernel
theorem dX9_init_58 : decode cX9_init 58 = .ok (.newarray .int, 2) := by decide +kernel
theorem dX9_init_60 : decode cX9_init 60 = .ok (.putfield 28, 3) := by decide +kernel
theorem dX9_init_63 : decode cX9_init 63 = .ok (.aload_n 0, 1) := by decide +kernel
theorem dX9_init_64 : decode cX9_init 64 = .ok (.iconst 2, 1) := by decide +kernel
theorem dX9_init_65 : decode cX9_init 65 = .ok (.newarray .int, 2) := by decide +kernel
theorem dX9_init_67 : decode cX9_init 67 = .ok (.putfield 31, 3) := by decide +kernel
theorem dX9_init_70 : decode cX9_init 70 = .ok (.aload_n 0, 1) := by decide +kernel
theorem dX9_init_71 : decode cX9_init 71 = .ok (.getfield 7, 3) := by decide +kernel
theorem dX9_init_74 : decode cX9_init 74 = .ok (.iconst 0, 1) := by decide +kernel
theorem dX9_init_75 : decode cX9_init 75 = .ok (.sipush 1000, 3) := by decide +kernel
theorem dX9_init_78 : decode cX9_init 78 = .ok (.iastore, 1) := by decide +kernel
theorem dX9_init_79 : decode cX9_init 79 = .ok (.aload_n 0, 1) := by decide +kernel
theorem dX9_init_80 : decode cX9_init 80 = .ok (.getfield 7, 3) := by decide +kernel
theorem dX9_init_83 : decode cX9_init 83 = .ok (.iconst 1, 1) := by decide +kernel
theorem dX9_init_84 : decode cX9_init 84 = .ok (.sipush 200, 3) := by decide +kernel
theorem dX9_init_87 : decode cX9_init 87 = .ok (.iastore, 1) := by decide +kernel
theorem dX9_init_88 : decode cX9_init 88 = .ok (.aload_n 0, 1) := by decide +kernel
theorem dX9_init_89 : decode cX9_init 89 = .ok (.getfield 7, 3) := by decide +kernel
theorem dX9_init_92 : decode cX9_init 92 = .ok (.iconst 2, 1) := by decide +kernel
theorem dX9_init_93 : decode cX9_init 93 = .ok (.bipush 60, 2) := by decide +kernel
theorem dX9_init_95 : decode cX9_init 95 = .ok (.iastore, 1) := by decide +kernel
theorem dX9_init_96 : decode cX9_init 96 = .ok (.aload_n 0, 1) := by decide +kernel
theorem dX9_init_97 : decode cX9_init 97 = .ok (.getfield 7, 3) := by decide +kernel
theorem dX9_init_100 : decode cX9_init 100 = .ok (.iconst 3, 1) := by decide +kernel
theorem dX9_init_101 : decode cX9_init 101 = .ok (.bipush 100, 2) := by decide +kernel
theorem dX9_init_103 : decode cX9_init 103 = .ok (.iastore, 1) := by decide +kernel
theorem dX9_init_104 : decode cX9_init 104 = .ok (.aload_n 0, 1) := by decide +kernel
theorem dX9_init_105 : decode cX9_init 105 = .ok (.getfield 7, 3) := by decide +kernel
theorem dX9_init_108 : decode cX9_init 108 = .ok (.iconst 4, 1) := by decide +kernel
theorem dX9_init_109 : decode cX9_init 109 = .ok (.bipush 8, 2) := by decide +kernel
theorem dX9_init_111 : decode cX9_init 111 = .ok (.iastore, 1) := by decide +kernel
theorem dX9_init_112 : decode cX9_init 112 = .ok (.aload_n 0, 1) := by decide +kernel
theorem dX9_init_113 : decode cX9_init 113 = .ok (.getfield 7, 3) := by decide +kernel
theorem dX9_init_116 : decode cX9_init 116 = .ok (.iconst 5, 1) := by decide +kernel
theorem dX9_init_117 : decode cX9_init 117 = .ok (.sipush (-400), 3) := by decide +kernel
theorem dX9_init_120 : decode cX9_init 120 = .ok (.iastore, 1) := by decide +kernel
theorem dX9_init_121 : decode cX9_init 121 = .ok (.aload_n 0, 1) := by decide +kernel
theorem dX9_init_122 : decode cX9_init 122 = .ok (.getfield 7, 3) := by decide +kernel
theorem dX9_init_125 : decode cX9_init 125 = .ok (.bipush 6, 2) := by decide +kernel
theorem dX9_init_127 : decode cX9_init 127 = .ok (.iconst 3, 1) := by decide +kernel
theorem dX9_init_128 : decode cX9_init 128 = .ok (.iastore, 1) := by decide +kernel
theorem dX9_init_129 : decode cX9_init 129 = .ok (.aload_n 0, 1) := by decide +kernel
theorem dX9_init_130 : decode cX9_init 130 = .ok (.getfield 7, 3) := by decide +kernel
theorem dX9_init_133 : decode cX9_init 133 = .ok (.bipush 7, 2) := by decide +kernel
theorem dX9_init_135 : decode cX9_init 135 = .ok (.bipush 20, 2) := by decide +kernel
theorem dX9_init_137 : decode cX9_init 137 = .ok (.iastore, 1) := by decide +kernel
theorem dX9_init_138 : decode cX9_init 138 = .ok (.aload_n 0, 1) := by decide +kernel
theorem dX9_init_139 : decode cX9_init 139 = .ok (.getfield 7, 3) := by decide +kernel
theorem dX9_init_142 : decode cX9_init 142 = .ok (.bipush 8, 2) := by decide +kernel
theorem dX9_init_144 : decode cX9_init 144 = .ok (.sipush (-1000), 3) := by decide +kernel
theorem dX9_init_147 : decode cX9_init 147 = .ok (.iastore, 1) := by decide +kernel
theorem dX9_init_148 : decode cX9_init 148 = .ok (.aload_n 0, 1) := by decide +kernel
theorem dX9_init_149 : decode cX9_init 149 = .ok (.getfield 7, 3) := by decide +kernel
theorem dX9_init_152 : decode cX9_init 152 = .ok (.bipush 9, 2) := by decide +kernel
theorem dX9_init_154 : decode cX9_init 154 = .ok (.sipush 1000, 3) := by decide +kernel
theorem dX9_init_157 : decode cX9_init 157 = .ok (.iastore, 1) := by decide +kernel
theorem dX9_init_158 : decode cX9_init 158 = .ok (.return_, 1) := by decide +kernel
theorem dX9_in_0 : decode cX9_in 0 = .ok (.iload_n 0, 1) := by decide +kernel
theorem dX9_in_1 : decode cX9_in 1 = .ok (.iload_n 1, 1) := by decide +kernel
theorem dX9_in_2 : decode cX9_in 2 = .ok (.if_icmp .lt 12, 3) := by decide +kernel
theorem dX9_in_5 : decode cX9_in 5 = .ok (.iload_n 0, 1) := by decide +kernel
theorem dX9_in_6 : decode cX9_in 6 = .ok (.iload_n 2, 1) := by decide +kernel
theorem dX9_in_7 : decode cX9_in 7 = .ok (.if_icmp .gt 7, 3) := by decide +kernel
theorem dX9_in_10 : decode cX9_in 10 = .ok (.iconst 1, 1) := by decide +kernel
theorem dX9_in_11 : decode cX9_in 11 = .ok (.goto 4, 3) := by decide +kernel
theorem dX9_in_14 : decode cX9_in 14 = .ok (.iconst 0, 1) := by decide +kernel
theorem dX9_in_15 : decode cX9_in 15 = .ok (.ireturn, 1) := by decide +kernel
theorem dX9_copies_0 : decode cX9_copies 0 = .ok (.iconst 0, 1) := by decide +kernel
theorem dX9_copies_1 : decode cX9_copies 1 = .ok (.istore_n 2, 1) := by decide +kernel
theorem dX9_copies_2 : decode cX9_copies 2 = .ok (.iload_n 2, 1) := by decide +kernel
theorem dX9_copies_3 : decode cX9_copies 3 = .ok (.bipush 63, 2) := by decide +kernel
theorem dX9_copies_5 : decode cX9_copies 5 = .ok (.if_icmp .ge 15, 3) := by decide +kernel
theorem dX9_copies_8 : decode cX9_copies 8 = .ok (.aload_n 1, 1) := by decide +kernel
theorem dX9_copies_9 : decode cX9_copies 9 = .ok (.iload_n 2, 1) := by decide +kernel
theorem dX9_copies_10 : decode cX9_copies 10 = .ok (.aload_n 0, 1) := by decide +kernel
theorem dX9_copies_11 : decode cX9_copies 11 = .ok (.iload_n 2, 1) := by decide +kernel
theorem dX9_copies_12 : decode cX9_copies 12 = .ok (.iaload, 1) := by decide +kernel
theorem dX9_copies_13 : decode cX9_copies 13 = .ok (.iastore, 1) := by decide +kernel
theorem dX9_copies_14 : decode cX9_copies 14 = .ok (.iinc 2 1, 3) := by decide +kernel
theorem dX9_copies_17 : decode cX9_copies 17 = .ok (.goto (-15), 3) := by decide +kernel
theorem dX9_copies_20 : decode cX9_copies 20 = .ok (.return_, 1) := by decide +kernel
theorem dX9_changes_0 : decode cX9_changes 0 = .ok (.aload_n 0, 1) := by decide +kernel
theorem dX9_changes_1 : decode cX9_changes 1 = .ok (.getfield 34, 3) := by decide +kernel
theorem dX9_changes_4 : decode cX9_changes 4 = .ok (.ifCond .eq 4, 3) := by decide +kernel
theorem dX9_changes_7 : decode cX9_changes 7 = .ok (.return_, 1) := by decide +kernel
theorem dX9_changes_8 : decode cX9_changes 8 = .ok (.aload_n 0, 1) := by decide +kernel
theorem dX9_changes_9 : decode cX9_changes 9 = .ok (.getfield 38, 3) := by decide +kernel
theorem dX9_changes_12 : decode cX9_changes 12 = .ok (.iconst 4, 1) := by decide +kernel
theorem dX9_changes_13 : decode cX9_changes 13 = .ok (.if_icmp .ne 43, 3) := by decide +kernel
theorem dX9_changes_16 : decode cX9_changes 16 = .ok (.iconst 0, 1) := by decide +kernel
theorem dX9_changes_17 : decode cX9_changes 17 = .ok (.istore_n 1, 1) := by decide +kernel
theorem dX9_changes_18 : decode cX9_changes 18 = .ok (.iload_n 1, 1) := by decide +kernel
theorem dX9_changes_19 : decode cX9_changes 19 = .ok (.sipush 189, 3) := by decide +kernel
theorem dX9_changes_22 : decode cX9_changes 22 = .ok (.if_icmp .ge 24, 3) := by decide +kernel
theorem dX9_changes_25 : decode cX9_changes 25 = .ok (.aload_n 0, 1) := by decide +kernel
theorem dX9_changes_26 : decode cX9_changes 26 = .ok (.getfield 13, 3) := by decide +kernel
theorem dX9_changes_29 : decode cX9_changes 29 = .ok (.iload_n 1, 1) := by decide +kernel
theorem dX9_changes_30 : decode cX9_changes 30 = .ok (.aload_n 0, 1) := by decide +kernel
theorem dX9_changes_31 : decode cX9_changes 31 = .ok (.getfield 13, 3) := by decide +kernel
theorem dX9_changes_34 : decode cX9_changes 34 = .ok (.iload_n 1, 1) := by decide +kernel
theorem dX9_changes_35 : decode cX9_changes 35 = .ok (.bipush 63, 2) := by decide +kernel
theorem dX9_changes_37 : decode cX9_changes 37 = .ok (.iadd, 1) := by decide +kernel
theorem dX9_changes_38 : decode cX9_changes 38 = .ok (.iaload, 1) := by decide +kernel
theorem dX9_changes_39 : decode cX9_changes 39 = .ok (.iastore, 1) := by decide +kernel
theorem dX9_changes_40 : decode cX9_changes 40 = .ok (.iinc 1 1, 3) := by decide +kernel
theorem dX9_changes_43 : decode cX9_changes 43 = .ok (.goto (-25), 3) := by decide +kernel
theorem dX9_changes_46 : decode cX9_changes 46 = .ok (.aload_n 0, 1) := by decide +kernel
theorem dX9_changes_47 : decode cX9_changes 47 = .ok (.dup, 1) := by decide +kernel
theorem dX9_changes_48 : decode cX9_changes 48 = .ok (.getfield 38, 3) := by decide +kernel
theorem dX9_changes_51 : decode cX9_changes 51 = .ok (.iconst 1, 1) := by decide +kernel
theorem dX9_changes_52 : decode cX9_changes 52 = .ok (.isub, 1) := by decide +kernel
theorem dX9_changes_53 : decode cX9_changes 53 = .ok (.putfield 38, 3) := by decide +kernel
theorem dX9_changes_56 : decode cX9_changes 56 = .ok (.iconst 0, 1) := by decide +kernel
theorem dX9_changes_57 : decode cX9_changes 57 = .ok (.istore_n 1, 1) := by decide +kernel
theorem dX9_changes_58 : decode cX9_changes 58 = .ok (.iload_n 1, 1) := by decide +kernel
theorem dX9_changes_59 : decode cX9_changes 59 = .ok (.bipush 63, 2) := by decide +kernel
theorem dX9_changes_61 : decode cX9_changes 61 = .ok (.if_icmp .ge 29, 3) := by decide +kernel
theorem dX9_changes_64 : decode cX9_changes 64 = .ok (.aload_n 0, 1) := by decide +kernel
theorem dX9_changes_65 : decode cX9_changes 65 = .ok (.getfield 13, 3) := by decide +kernel
theorem dX9_changes_68 : decode cX9_changes 68 = .ok (.bipush 63, 2) := by decide +kernel
theorem dX9_changes_70 : decode cX9_changes 70 = .ok (.aload_n 0, 1) := by decide +kernel
theorem dX9_changes_71 : decode cX9_changes 71 = .ok (.getfield 38, 3) := by decide +kernel
theorem dX9_changes_74 : decode cX9_changes 74 = .ok (.imul, 1) := by decide +kernel
theorem dX9_changes_75 : decode cX9_changes 75 = .ok (.iload_n 1, 1) := by decide +kernel
theorem dX9_changes_76 : decode cX9_changes 76 = .ok (.iadd, 1) := by decide +kernel
theorem dX9_changes_77 : decode cX9_changes 77 = .ok (.aload_n 0, 1) := by decide +kernel
theorem dX9_changes_78 : decode cX9_changes 78 = .ok (.getfield 7, 3) := by decide +kernel
theorem dX9_changes_81 : decode cX9_changes 81 = .ok (.iload_n 1, 1) := by decide +kernel
theorem dX9_changes_82 : decode cX9_changes 82 = .ok (.iaload, 1) := by decide +kernel
theorem dX9_changes_83 : decode cX9_changes 83 = .ok (.iastore, 1) := by decide +kernel
theorem dX9_changes_84 : decode cX9_changes 84 = .ok (.iinc 1 1, 3) := by decide +kernel
theorem dX9_changes_87 : decode cX9_changes 87 = .ok (.goto (-29), 3) := by decide +kernel
theorem dX9_changes_90 : decode cX9_changes 90 = .ok (.aload_n 0, 1) := by decide +kernel
theorem dX9_changes_91 : decode cX9_changes 91 = .ok (.dup, 1) := by decide +kernel
theorem dX9_changes_92 : decode cX9_changes 92 = .ok (.getfield 38, 3) := by decide +kernel
theorem dX9_changes_95 : decode cX9_changes 95 = .ok (.iconst 1, 1) := by decide +kernel
theorem dX9_changes_96 : decode cX9_changes 96 = .ok (.iadd, 1) := by decide +kernel
theorem dX9_changes_97 : decode cX9_changes 97 = .ok (.putfield 38, 3) := by decide +kernel
theorem dX9_changes_100 : decode cX9_changes 100 = .ok (.return_, 1) := by decide +kernel
theorem dX9_leastOf_0 : decode cX9_leastOf 0 = .ok (.iload_n 0, 1) := by decide +kernel
theorem dX9_leastOf_1 : decode cX9_leastOf 1 = .ok (.ifCond .ne 8, 3) := by decide +kernel
theorem dX9_leastOf_4 : decode cX9_leastOf 4 = .ok (.bipush 100, 2) := by decide +kernel
theorem dX9_leastOf_6 : decode cX9_leastOf 6 = .ok (.goto 34, 3) := by decide +kernel
theorem dX9_leastOf_9 : decode cX9_leastOf 9 = .ok (.iload_n 0, 1) := by decide +kernel
theorem dX9_leastOf_10 : decode cX9_leastOf 10 = .ok (.iconst 1, 1) := by decide +kernel
theorem dX9_leastOf_11 : decode cX9_leastOf 11 = .ok (.if_icmp .ne 8, 3) := by decide +kernel
theorem dX9_leastOf_14 : decode cX9_leastOf 14 = .ok (.bipush 20, 2) := by decide +kernel
theorem dX9_leastOf_16 : decode cX9_leastOf 16 = .ok (.goto 24, 3) := by decide +kernel
theorem dX9_leastOf_19 : decode cX9_leastOf 19 = .ok (.iload_n 0, 1) := by decide +kernel
theorem dX9_leastOf_20 : decode cX9_leastOf 20 = .ok (.iconst 3, 1) := by decide +kernel
theorem dX9_leastOf_21 : decode cX9_leastOf 21 = .ok (.if_icmp .ne 7, 3) := by decide +kernel
theorem dX9_leastOf_24 : decode cX9_leastOf 24 = .ok (.iconst 1, 1) := by decide +kernel
theorem dX9_leastOf_25 : decode cX9_leastOf 25 = .ok (.goto 15, 3) := by decide +kernel
theorem dX9_leastOf_28 : decode cX9_leastOf 28 = .ok (.iload_n 0, 1) := by decide +kernel
theorem dX9_leastOf_29 : decode cX9_leastOf 29 = .ok (.iconst 5, 1) := by decide +kernel
theorem dX9_leastOf_30 : decode cX9_leastOf 30 = .ok (.if_icmp .ne 9, 3) := by decide +kernel
theorem dX9_leastOf_33 : decode cX9_leastOf 33 = .ok (.sipush (-2900), 3) := by decide +kernel
theorem dX9_leastOf_36 : decode cX9_leastOf 36 = .ok (.goto 4, 3) := by decide +kernel
theorem dX9_leastOf_39 : decode cX9_leastOf 39 = .ok (.iconst 0, 1) := by decide +kernel
theorem dX9_leastOf_40 : decode cX9_leastOf 40 = .ok (.ireturn, 1) := by decide +kernel
theorem dX9_mostOf_0 : decode cX9_mostOf 0 = .ok (.iload_n 0, 1) := by decide +kernel
theorem dX9_mostOf_1 : decode cX9_mostOf 1 = .ok (.tableswitch 65 0 6 #[43, 47, 65, 51, 55, 58, 62], 43) := by decide +kernel
theorem dX9_mostOf_44 : decode cX9_mostOf 44 = .ok (.sipush 5000, 3) := by decide +kernel
theorem dX9_mostOf_47 : decode cX9_mostOf 47 = .ok (.ireturn, 1) := by decide +kernel
theorem dX9_mostOf_48 : decode cX9_mostOf 48 = .ok (.sipush 1000, 3) := by decide +kernel
theorem dX9_mostOf_51 : decode cX9_mostOf 51 = .ok (.ireturn, 1) := by decide +kernel
theorem dX9_mostOf_52 : decode cX9_mostOf 52 = .ok (.sipush 300, 3) := by decide +kernel
theorem dX9_mostOf_55 : decode cX9_mostOf 55 = .ok (.ireturn, 1) := by decide +kernel
theorem dX9_mostOf_56 : decode cX9_mostOf 56 = .ok (.bipush 100, 2) := by decide +kernel
theorem dX9_mostOf_58 : decode cX9_mostOf 58 = .ok (.ireturn, 1) := by decide +kernel
theorem dX9_mostOf_59 : decode cX9_mostOf 59 = .ok (.sipush 2900, 3) := by decide +kernel
theorem dX9_mostOf_62 : decode cX9_mostOf 62 = .ok (.ireturn, 1) := by decide +kernel
theorem dX9_mostOf_63 : decode cX9_mostOf 63 = .ok (.bipush 50, 2) := by decide +kernel
theorem dX9_mostOf_65 : decode cX9_mostOf 65 = .ok (.ireturn, 1) := by decide +kernel
theorem dX9_mostOf_66 : decode cX9_mostOf 66 = .ok (.sipush 200, 3) := by decide +kernel
theorem dX9_mostOf_69 : decode cX9_mostOf 69 = .ok (.ireturn, 1) := by decide +kernel
set_option maxRecDepth 20000 in
theorem ggX9_set_X9_in : GoodIn wsX9_set wsX9_in := goodIn_r _ [6] (by decide +kernel) (by decide +kernel)
set_option maxRecDepth 20000 in
theorem gX9_set_X9_in : GoodIn wsX9_set (va_wsS RX9 42 yX9_in wsX9_in) := goodIn_app (goodIn_of _ (by decide +kernel)) ggX9_set_X9_in
set_option maxRecDepth 20000 in
theorem ggX9_set_X9_leastOf : GoodIn wsX9_set wsX9_leastOf := goodIn_r _ [9] (by decide +kernel) (by decide +kernel)
set_option maxRecDepth 20000 in
theorem gX9_set_X9_leastOf : GoodIn wsX9_set (va_wsS RX9 46 yX9_leastOf wsX9_leastOf) := goodIn_app (goodIn_of _ (by decide +kernel)) ggX9_set_X9_leastOf
