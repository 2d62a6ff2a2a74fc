theorem dX8_loadAt_21 : decode cX8_loadAt 21 = .ok (.invokevirtual 82, 3) := by decide +kernel
theorem dX8_loadAt_24 : decode cX8_loadAt 24 = .ok (.goto 5, 3) := by decide +kernel
theorem dX8_loadAt_27 : decode cX8_loadAt 27 = .ok (.ldc 85, 2) := by decide +kernel
theorem dX8_loadAt_29 : decode cX8_loadAt 29 = .ok (.ireturn, 1) := by decide +kernel
set_option maxRecDepth 20000 in
theorem ggX8_move_X8_begin : GoodIn wsX8_move wsX8_begin := goodIn_r _ [6, 7, 8, 9, 10, 11, 12, 13, 14, 15, 16, 17, 18, 19, 20, 21, 22, 23, 24, 25, 26, 27, 28, 29, 30, 31, 32, 33, 34, 35, 36, 37, 38, 39, 40, 41, 42, 43, 44, 45, 46, 47, 48, 151, 152, 153, 154, 155, 156, 157, 158, 159, 160, 161, 162, 163, 164, 165, 166, 167, 168, 169, 170, 171, 172, 173, 174, 175] (by decide +kernel) (by decide +kernel)
set_option maxRecDepth 20000 in
theorem gX8_move_X8_begin : GoodIn wsX8_move (wsV RX8 47 RX8 yX8_begin wsX8_begin) := goodIn_app (goodIn_of _ (by decide +kernel)) ggX8_move_X8_begin
set_option maxRecDepth 20000 in
theorem ggX8_move_X0_goTo : GoodIn wsX8_move wsX0_goTo := goodIn_r _ [53, 54, 55, 56, 57, 58, 59, 60, 61, 52, 62, 63, 64, 65, 5, 66, 67, 68, 69, 70, 71, 72, 73, 74, 75, 76, 77, 78, 79, 80, 81, 82, 83, 84, 85, 86, 87, 88, 89, 90, 91, 92, 93, 94, 95, 96, 97, 98, 99, 100, 12, 101, 24, 23, 19, 29, 28, 30, 102, 103, 104, 105, 106, 107, 34, 108, 40, 36, 38, 39, 109, 110, 111, 112, 14, 27, 113, 114, 115, 116, 117, 118, 119, 120, 121, 122, 123, 124, 125, 126, 127, 128, 44, 129, 46, 47, 16, 17, 18, 48, 176, 157, 158, 159, 160, 161, 162, 163, 164, 165, 166, 167, 168, 169, 177, 178, 179, 180, 181, 170, 171, 172, 173, 174, 175] (by decide +kernel) (by decide +kernel)
set_option maxRecDepth 20000 in
theorem gX8_move_X0_goTo : GoodIn wsX8_move (wsV RX8 112 RX0 yX0_goTo wsX0_goTo) := goodIn_app (goodIn_of _ (by decide +kernel)) ggX8_move_X0_goTo
set_option maxRecDepth 20000 in
theorem ggX8_move_X8_settle : GoodIn wsX8_move wsX8_settle := goodIn_r _ [133, 134, 8, 7, 135, 136, 5, 137, 138, 139, 140, 141, 142, 143, 144, 145, 146, 147, 148, 149, 150, 10, 11, 12, 13, 14, 15, 16, 17, 18, 19, 20, 21, 22, 23, 24, 25, 26, 27, 28, 29, 30, 31, 32, 33, 34, 35, 36, 37, 38, 39, 40, 41, 42, 43, 44, 45, 46, 47, 48, 9, 151, 152, 153, 154, 155, 156, 182, 183, 157, 158, 159, 160, 161, 162, 163, 164, 165, 166, 167, 168, 169, 170, 171, 172, 173, 174, 175] (by decide +kernel) (by decide +kernel)
set_option maxRecDepth 20000 in
theorem gX8_move_X8_settle : GoodIn wsX8_move (wsV RX8 55 RX8 yX8_settle wsX8_settle) := goodIn_app (goodIn_of _ (by decide +kernel)) ggX8_move_X8_settle
theorem dX8_move_0 : decode cX8_move 0 = .ok (.aload_n 0, 1) := by decide +kernel
theorem dX8_move_1 : decode cX8_move 1 = .ok (.aload_n 0, 1) := by decide +kernel
theorem dX8_move_2 : decode cX8_move 2 = .ok (.getfield 29, 3) := by decide +kernel
theorem dX8_move_5 : decode cX8_move 5 = .ok (.aload_n 0, 1) := by decide +kernel
theorem dX8_move_6 : decode cX8_move 6 = .ok (.invokevirtual 47, 3) := by decide +kernel
theorem dX8_move_9 : decode cX8_move 9 = .ok (.iload_n 1, 1) := by decide +kernel
theorem dX8_move_10 : decode cX8_move 10 = .ok (.invokevirtual 112, 3) := by decide +kernel
theorem dX8_move_13 : decode cX8_move 13 = .ok (.invokevirtual 55, 3) := by decide +kernel
theorem dX8_move_16 : decode cX8_move 16 = .ok (.ireturn, 1) := by decide +kernel
set_option maxRecDepth 20000 in
theorem ggX8_moveBy_X8_begin : GoodIn wsX8_moveBy wsX8_begin := goodIn_r _ [6, 7, 8, 9, 10, 11, 12, 13, 14, 15, 16, 17, 18, 19, 20, 21, 22, 23, 24, 25, 26, 27, 28, 29, 30, 31, 32, 33, 34, 35, 36, 37, 38, 39, 40, 41, 42, 43, 44, 45, 46, 47, 48, 155, 156, 157, 158, 159, 160, 161, 162, 163, 164, 165, 166, 167, 168, 169, 170, 171, 172, 173, 174, 175, 176, 177, 178, 179] (by decide +kernel) (by decide +kernel)
set_option maxRecDepth 20000 in
theorem gX8_moveBy_X8_begin : GoodIn wsX8_moveBy (wsV RX8 47 RX8 yX8_begin wsX8_begin) := goodIn_app (goodIn_of _ (by decide +kernel)) ggX8_moveBy_X8_begin
set_option maxRecDepth 20000 in
theorem ggX8_moveBy_X0_goBy : GoodIn wsX8_moveBy wsX0_goBy := goodIn_r _ [53, 54, 55, 56, 5, 57, 58, 59, 60, 52, 61, 62, 63, 64, 65, 66, 67, 68, 69, 70, 71, 72, 73, 74, 75, 76, 77, 78, 79, 80, 81, 82, 83, 84, 85, 86, 87, 88, 89, 90, 91, 92, 93, 94, 95, 96, 97, 98, 99, 100, 101, 102, 103, 104, 12, 105, 24, 23, 19, 29, 28, 30, 106, 107, 108, 109, 110, 111, 34, 112, 40, 36, 38, 39, 113, 114, 115, 116, 14, 27, 117, 118, 119, 120, 121, 122, 123, 124, 125, 126, 127, 128, 129, 130, 131, 132, 44, 133, 46, 47, 16, 17, 18, 48, 161, 162, 163, 164, 165, 166, 167, 168, 169, 170, 171, 172, 173, 180, 181, 182, 183, 184, 185, 174, 175, 176, 177, 178, 179] (by decide +kernel) (by decide +kernel)
set_option maxRecDepth 20000 in
theorem gX8_moveBy_X0_goBy : GoodIn wsX8_moveBy (wsV RX8 116 RX0 yX0_goBy wsX0_goBy) := goodIn_app (goodIn_of _ (by decide +kernel)) ggX8_moveBy_X0_goBy
set_option maxRecDepth 20000 in
theorem ggX8_moveBy_X8_settle : GoodIn wsX8_moveBy wsX8_settle := goodIn_r _ [137, 138, 8, 7, 139, 140, 5, 141, 142, 143, 144, 145, 146, 147, 148, 149, 150, 151, 152, 153, 154, 10, 11, 12, 13, 14, 15, 16, 17, 18, 19, 20, 21, 22, 23, 24, 25, 26, 27, 28, 29, 30, 31, 32, 33, 34, 35, 36, 37, 38, 39, 40, 41, 42, 43, 44, 45, 46, 47, 48, 9, 155, 156, 157, 158, 159, 160, 186, 187, 161, 162, 163, 164, 165, 166, 167, 168, 169, 170, 171, 172, 173, 174, 175, 176, 177, 178, 179] (by decide +kernel) (by decide +kernel)
set_option maxRecDepth 20000 in
theorem gX8_moveBy_X8_settle : GoodIn wsX8_moveBy (wsV RX8 55 RX8 yX8_settle wsX8_settle) := goodIn_app (goodIn_of _ (by decide +kernel)) ggX8_moveBy_X8_settle
theorem dX8_moveBy_0 : decode cX8_moveBy 0 = .ok (.aload_n 0, 1) := by decide +kernel
theorem dX8_moveBy_1 : decode cX8_moveBy 1 = .ok (.aload_n 0, 1) := by decide +kernel
theorem dX8_moveBy_2 : decode cX8_moveBy 2 = .ok (.getfield 29, 3) := by decide +kernel
theorem dX8_moveBy_5 : decode cX8_moveBy 5 = .ok (.aload_n 0, 1) := by decide +kernel
theorem dX8_moveBy_6 : decode cX8_moveBy 6 = .ok (.invokevirtual 47, 3) := by decide +kernel
theorem dX8_moveBy_9 : decode cX8_moveBy 9 = .ok (.iload_n 1, 1) := by decide +kernel
theorem dX8_moveBy_10 : decode cX8_moveBy 10 = .ok (.invokevirtual 116, 3) := by decide +kernel
theorem dX8_moveBy_13 : decode cX8_moveBy 13 = .ok (.invokevirtual 55, 3) := by decide +kernel
theorem dX8_moveBy_16 : decode cX8_moveBy 16 = .ok (.ireturn, 1) := by decide +kernel
set_option maxRecDepth 20000 in
theorem ggX8_home_X8_begin : GoodIn wsX8_home wsX8_begin := goodIn_r _ [6, 7, 8, 9, 10, 11, 12, 13, 14, 15, 16, 17, 18, 19, 20, 21, 22, 23, 24, 25, 26, 27, 28, 29, 30, 31, 32, 33, 34, 35, 36, 37, 38, 39, 40, 41, 42, 43, 44, 45, 46, 47, 48, 132, 133, 134, 135, 136, 137, 138, 139, 140, 141, 142, 143, 144, 145, 146, 147, 148, 149, 150, 151, 152, 153, 154, 155, 156] (by decide +kernel) (by decide +kernel)
set_option maxRecDepth 20000 in
theorem gX8_home_X8_begin : GoodIn wsX8_home (wsV RX8 47 RX8 yX8_begin wsX8_begin) := goodIn_app (goodIn_of _ (by decide +kernel)) ggX8_home_X8_begin
set_option maxRecDepth 20000 in
theorem ggX8_home_X0_seekSwitch : GoodIn wsX8_home wsX0_seekSwitch := goodIn_r _ [53, 54, 55, 56, 57, 58, 59, 60, 61, 62, 63, 64, 65, 66, 67, 68, 69, 70, 71, 72, 73, 74, 75, 52, 76, 77, 78, 79, 80, 81, 82, 5, 83, 84, 85, 86, 87, 88, 89, 90, 12, 91, 24, 23, 19, 29, 28, 30, 92, 93, 94, 95, 96, 97, 34, 98, 40, 36, 38, 39, 99, 100, 101, 102, 14, 27, 103, 104, 105, 106, 107, 108, 109, 110, 26, 25, 157, 138, 139, 140, 141, 142, 143, 144, 145, 146, 147, 148, 149, 150, 158, 159, 160, 161, 162, 151, 152, 153, 154] (by decide +kernel) (by decide +kernel)
set_option maxRecDepth 20000 in
theorem gX8_home_X0_seekSwitch : GoodIn wsX8_home (wsV RX8 119 RX0 yX0_seekSwitch wsX0_seekSwitch) := goodIn_app (goodIn_of _ (by decide +kernel)) ggX8_home_X0_seekSwitch
set_option maxRecDepth 20000 in
theorem ggX8_home_X8_settle : GoodIn wsX8_home wsX8_settle := goodIn_r _ [114, 115, 8, 7, 116, 117, 5, 118, 119, 120, 121, 122, 123, 124, 125, 126, 127, 128, 129, 130, 131, 10, 11, 12, 13, 14, 15, 16, 17, 18, 19, 20, 21, 22, 23, 24, 25, 26, 27, 28, 29, 30, 31, 32, 33, 34, 35, 36, 37, 38, 39, 40, 41, 42, 43, 44, 45, 46, 47, 48, 9, 132, 133, 134, 135, 136, 137, 163, 164, 138, 139, 140, 141, 142, 143, 144, 145, 146, 147, 148, 149, 150, 151, 152, 153, 154, 155, 156] (by decide +kernel) (by decide +kernel)
set_option maxRecDepth 20000 in
theorem gX8_home_X8_settle : GoodIn wsX8_home (wsV RX8 55 RX8 yX8_settle wsX8_settle) := goodIn_app (goodIn_of _ (by decide +kernel)) ggX8_home_X8_settle
theorem dX8_home_0 : decode cX8_home 0 = .ok (.aload_n 0, 1) := by decide +kernel
theorem dX8_home_1 : decode cX8_home 1 = .ok (.aload_n 0, 1) := by decide +kernel
theorem dX8_home_2 : decode cX8_home 2 = .ok (.getfield 29, 3) := by decide +kernel
theorem dX8_home_5 : decode cX8_home 5 = .ok (.aload_n 0, 1) := by decide +kernel
theorem dX8_home_6 : decode cX8_home 6 = .ok (.invokevirtual 47, 3) := by decide +kernel
theorem dX8_home_9 : decode cX8_home 9 = .ok (.invokevirtual 119, 3) := by decide +kernel
theorem dX8_home_12 : decode cX8_home 12 = .ok (.invokevirtual 55, 3) := by decide +kernel
theorem dX8_home_15 : decode cX8_home 15 = .ok (.ireturn, 1) := by decide +kernel
set_option maxRecDepth 20000 in
theorem ggX8_forget_X8_begin : GoodIn wsX8_forget wsX8_begin := goodIn_r _ [5, 6, 7, 8, 9, 10, 11, 12, 13, 14, 15, 16, 17, 18, 19, 20, 21, 22, 23, 24, 25, 26, 27, 28, 29, 30, 31, 32, 33, 34, 35, 36, 37, 38, 39, 40, 41, 42, 43, 44, 45, 46, 47, 86, 87, 88, 89, 90, 91, 73, 74, 75, 76, 77, 78, 79, 80, 81, 82, 83, 84, 85, 92, 93, 94, 95, 96, 97] (by decide +kernel) (by decide +kernel)
set_option maxRecDepth 20000 in
theorem gX8_forget_X8_begin : GoodIn wsX8_forget (wsV RX8 47 RX8 yX8_begin wsX8_begin) := goodIn_app (goodIn_of _ (by decide +kernel)) ggX8_forget_X8_begin
set_option maxRecDepth 20000 in
theorem ggX8_forget_X3_empty : GoodIn wsX8_forget wsX3_empty := goodIn_r _ [51, 47, 96, 97] (by decide +kernel) (by decide +kernel)
set_option maxRecDepth 20000 in
theorem gX8_forget_X3_empty : GoodIn wsX8_forget (wsV RX8 127 RX3 yX3_empty wsX3_empty) := goodIn_app (goodIn_of _ (by decide +kernel)) ggX8_forget_X3_empty
set_option maxRecDepth 20000 in
theorem ggX8_forget_X8_settle : GoodIn wsX8_forget wsX8_settle := goodIn_r _ [55, 56, 7, 6, 57, 58, 4, 59, 60, 61, 62, 63, 64, 65, 66, 67, 68, 69, 70, 71, 72, 9, 10, 11, 12, 13, 14, 15, 16, 17, 18, 19, 20, 21, 22, 23, 24, 25, 26, 27, 28, 29, 30, 31, 32, 33, 34, 35, 36, 37, 38, 39, 40, 41, 42, 43, 44, 45, 46, 47, 8, 86, 87, 88, 89, 90, 91, 98, 99, 73, 74, 75, 76, 77, 78, 79, 80, 81, 82, 83, 84, 85, 92, 93, 94, 95, 96, 97] (by decide +kernel) (by decide +kernel)
set_option maxRecDepth 20000 in
theorem gX8_forget_X8_settle : GoodIn wsX8_forget (wsV RX8 55 RX8 yX8_settle wsX8_settle) := goodIn_app (goodIn_of _ (by decide +kernel)) ggX8_forget_X8_settle
theorem dX8_forget_0 : decode cX8_forget 0 = .ok (.aload_n 0, 1) := by decide +kernel
theorem dX8_forget_1 : decode cX8_forget 1 = .ok (.aload_n 0, 1) := by decide +kernel
theorem dX8_forget_2 : decode cX8_forget 2 = .ok (.invokevirtual 47, 3) := by decide +kernel
theorem dX8_forget_5 : decode cX8_forget 5 = .ok (.getfield 123, 3) := by decide +kernel
theorem dX8_forget_8 : decode cX8_forget 8 = .ok (.invokevirtual 127, 3) := by decide +kernel
theorem dX8_forget_11 : decode cX8_forget 11 = .ok (.invokevirtual 55, 3) := by decide +kernel
theorem dX8_forget_14 : decode cX8_forget 14 = .ok (.ireturn, 1) := by decide +kernel
theorem dX8_axis_0 : decode cX8_axis 0 = .ok (.iload_n 1, 1) := by decide +kernel
theorem dX8_axis_1 : decode cX8_axis 1 = .ok (.tableswitch 167 0 9 #[55, 63, 71, 95, 111, 127, 135, 143, 151, 159], 55) := by decide +kernel
theorem dX8_axis_56 : decode cX8_axis 56 = .ok (.aload_n 0, 1) := by decide +kernel
theorem dX8_axis_57 : decode cX8_axis 57 = .ok (.getfield 10, 3) := by decide +kernel
theorem dX8_axis_60 : decode cX8_axis 60 = .ok (.getfield 133, 3) := by decide +kernel
theorem dX8_axis_63 : decode cX8_axis 63 = .ok (.ireturn, 1) := by decide +kernel
theorem dX8_axis_64 : decode cX8_axis 64 = .ok (.aload_n 0, 1) := by decide +kernel
theorem dX8_axis_65 : decode cX8_axis 65 = .ok (.getfield 10, 3) := by decide +kernel
theorem dX8_axis_68 : decode cX8_axis 68 = .ok (.getfield 136, 3) := by decide +kernel
theorem dX8_axis_71 : decode cX8_axis 71 = .ok (.ireturn, 1) := by decide +kernel
theorem dX8_axis_72 : decode cX8_axis 72 = .ok (.aload_n 0, 1) := by decide +kernel
theorem dX8_axis_73 : decode cX8_axis 73 = .ok (.getfield 10, 3) := by decide +kernel
theorem dX8_axis_76 : decode cX8_axis 76 = .ok (.getfield 133, 3) := by decide +kernel
theorem dX8_axis_79 : decode cX8_axis 79 = .ok (.aload_n 0, 1) := by decide +kernel
theorem dX8_axis_80 : decode cX8_axis 80 = .ok (.getfield 10, 3) := by decide +kernel
theorem dX8_axis_83 : decode cX8_axis 83 = .ok (.getfield 136, 3) := by decide +kernel
theorem dX8_axis_86 : decode cX8_axis 86 = .ok (.isub, 1) := by decide +kernel
theorem dX8_axis_87 : decode cX8_axis 87 = .ok (.aload_n 0, 1) := by decide +kernel
theorem dX8_axis_88 : decode cX8_axis 88 = .ok (.getfield 10, 3) := by decide +kernel
theorem dX8_axis_91 : decode cX8_axis 91 = .ok (.getfield 139, 3) := by decide +kernel
theorem dX8_axis_94 : decode cX8_axis 94 = .ok (.isub, 1) := by decide +kernel
theorem dX8_axis_95 : decode cX8_axis 95 = .ok (.ireturn, 1) := by decide +kernel
theorem dX8_axis_96 : decode cX8_axis 96 = .ok (.aload_n 0, 1) := by decide +kernel
theorem dX8_axis_97 : decode cX8_axis 97 = .ok (.getfield 10, 3) := by decide +kernel
theorem dX8_axis_100 : decode cX8_axis 100 = .ok (.getfield 142, 3) := by decide +kernel
theorem dX8_axis_103 : decode cX8_axis 103 = .ok (.ifCond .eq 7, 3) := by decide +kernel
theorem dX8_axis_106 : decode cX8_axis 106 = .ok (.iconst 1, 1) := by decide +kernel
theorem dX8_axis_107 : decode cX8_axis 107 = .ok (.goto 4, 3) := by decide +kernel
theorem dX8_axis_110 : decode cX8_axis 110 = .ok (.iconst 0, 1) := by decide +kernel
theorem dX8_axis_111 : decode cX8_axis 111 = .ok (.ireturn, 1) := by decide +kernel
theorem dX8_axis_112 : decode cX8_axis 112 = .ok (.aload_n 0, 1) := by decide +kernel
theorem dX8_axis_113 : decode cX8_axis 113 = .ok (.getfield 10, 3) := by decide +kernel
theorem dX8_axis_116 : decode cX8_axis 116 = .ok (.getfield 146, 3) := by decide +kernel
theorem dX8_axis_119 : decode cX8_axis 119 = .ok (.ifCond .eq 7, 3) := by decide +kernel
theorem dX8_axis_122 : decode cX8_axis 122 = .ok (.iconst 1, 1) := by decide +kernel
theorem dX8_axis_123 : decode cX8_axis 123 = .ok (.goto 4, 3) := by decide +kernel
theorem dX8_axis_126 : decode cX8_axis 126 = .ok (.iconst 0, 1) := by decide +kernel
theorem dX8_axis_127 : decode cX8_axis 127 = .ok (.ireturn, 1) := by decide +kernel
theorem dX8_axis_128 : decode cX8_axis 128 = .ok (.aload_n 0, 1) := by decide +kernel
theorem dX8_axis_129 : decode cX8_axis 129 = .ok (.getfield 10, 3) := by decide +kernel
theorem dX8_axis_132 : decode cX8_axis 132 = .ok (.getfield 149, 3) := by decide +kernel
theorem dX8_axis_135 : decode cX8_axis 135 = .ok (.ireturn, 1) := by decide +kernel
theorem dX8_axis_136 : decode cX8_axis 136 = .ok (.aload_n 0, 1) := by decide +kernel
theorem dX8_axis_137 : decode cX8_axis 137 = .ok (.getfield 10, 3) := by decide +kernel
theorem dX8_axis_140 : decode cX8_axis 140 = .ok (.getfield 152, 3) := by decide +kernel
theorem dX8_axis_143 : decode cX8_axis 143 = .ok (.ireturn, 1) := by decide +kernel
theorem dX8_axis_144 : decode cX8_axis 144 = .ok (.aload_n 0, 1) := by decide +kernel
theorem dX8_axis_145 : decode cX8_axis 145 = .ok (.getfield 10, 3) := by decide +kernel
theorem dX8_axis_148 : decode cX8_axis 148 = .ok (.getfield 155, 3) := by decide +kernel
theorem dX8_axis_151 : decode cX8_axis 151 = .ok (.ireturn, 1) := by decide +kernel
theorem dX8_axis_152 : decode cX8_axis 152 = .ok (.aload_n 0, 1) := by decide +kernel
theorem dX8_axis_153 : decode cX8_axis 153 = .ok (.getfield 10, 3) := by decide +kernel
theorem dX8_axis_156 : decode cX8_axis 156 = .ok (.getfield 157, 3) := by decide +kernel
theorem dX8_axis_159 : decode cX8_axis 159 = .ok (.ireturn, 1) := by decide +kernel
theorem dX8_axis_160 : decode cX8_axis 160 = .ok (.aload_n 0, 1) := by decide +kernel
theorem dX8_axis_161 : decode cX8_axis 161 = .ok (.getfield 10, 3) := by decide +kernel
theorem dX8_axis_164 : decode cX8_axis 164 = .ok (.getfield 160, 3) := by decide +kernel
theorem dX8_axis_167 : decode cX8_axis 167 = .ok (.ireturn, 1) := by decide +kernel
theorem dX8_axis_168 : decode cX8_axis 168 = .ok (.ldc 85, 2) := by decide +kernel
theorem dX8_axis_170 : decode cX8_axis 170 = .ok (.ireturn, 1) := by decide +kernel
set_option maxRecDepth 20000 in
theorem ggX8_moveOf_X3_part : GoodIn wsX8_moveOf wsX3_part := goodIn_r _ [6, 7, 8, 9, 10, 11, 12, 13, 33, 34] (by decide +kernel) (by decide +kernel)
set_option maxRecDepth 20000 in
theorem gX8_moveOf_X3_part : GoodIn wsX8_moveOf (wsV RX8 163 RX3 yX3_part wsX3_part) := goodIn_app (goodIn_of _ (by decide +kernel)) ggX8_moveOf_X3_part
theorem dX8_moveOf_0 : decode cX8_moveOf 0 = .ok (.aload_n 0, 1) := by decide +kernel
theorem dX8_moveOf_1 : decode cX8_moveOf 1 = .ok (.getfield 10, 3) := by decide +kernel
theorem dX8_moveOf_4 : decode cX8_moveOf 4 = .ok (.getfield 123, 3) := by decide +kernel
theorem dX8_moveOf_7 : decode cX8_moveOf 7 = .ok (.iload_n 1, 1) := by decide +kernel
theorem dX8_moveOf_8 : decode cX8_moveOf 8 = .ok (.iload_n 2, 1) := by decide +kernel
theorem dX8_moveOf_9 : decode cX8_moveOf 9 = .ok (.invokevirtual 163, 3) := by decide +kernel
theorem dX8_moveOf_12 : decode cX8_moveOf 12 = .ok (.ireturn, 1) := by decide +kernel
set_option maxRecDepth 20000 in
theorem ggX8_count_X8_within : GoodIn wsX8_count wsX8_within := goodIn_r _ [8] (by decide +kernel) (by decide +kernel)
set_option maxRecDepth 20000 in
theorem gX8_count_X8_within : GoodIn wsX8_count (va_wsS RX8 78 yX8_within wsX8_within) := goodIn_app (goodIn_of _ (by decide +kernel)) ggX8_count_X8_within
theorem dX8_count_0 : decode cX8_count 0 = .ok (.iload_n 1, 1) := by decide +kernel
theorem dX8_count_1 : decode cX8_count 1 = .ok (.tableswitch 69 0 3 #[31, 42, 53, 61], 31) := by decide +kernel
theorem dX8_count_32 : decode cX8_count 32 = .ok (.aload_n 0, 1) := by decide +kernel
theorem dX8_count_33 : decode cX8_count 33 = .ok (.getfield 10, 3) := by decide +kernel
theorem dX8_count_36 : decode cX8_count 36 = .ok (.getfield 62, 3) := by decide +kernel
theorem dX8_count_39 : decode cX8_count 39 = .ok (.getfield 164, 3) := by decide +kernel
theorem dX8_count_42 : decode cX8_count 42 = .ok (.ireturn, 1) := by decide +kernel
theorem dX8_count_43 : decode cX8_count 43 = .ok (.aload_n 0, 1) := by decide +kernel
theorem dX8_count_44 : decode cX8_count 44 = .ok (.getfield 10, 3) := by decide +kernel
theorem dX8_count_47 : decode cX8_count 47 = .ok (.getfield 123, 3) := by decide +kernel
theorem dX8_count_50 : decode cX8_count 50 = .ok (.getfield 167, 3) := by decide +kernel
theorem dX8_count_53 : decode cX8_count 53 = .ok (.ireturn, 1) := by decide +kernel
theorem dX8_count_54 : decode cX8_count 54 = .ok (.aload_n 0, 1) := by decide +kernel
theorem dX8_count_55 : decode cX8_count 55 = .ok (.getfield 22, 3) := by decide +kernel
theorem dX8_count_58 : decode cX8_count 58 = .ok (.getfield 168, 3) := by decide +kernel
theorem dX8_count_61 : decode cX8_count 61 = .ok (.ireturn, 1) := by decide +kernel
theorem dX8_count_62 : decode cX8_count 62 = .ok (.aload_n 0, 1) := by decide +kernel
theorem dX8_count_63 : decode cX8_count 63 = .ok (.getfield 36, 3) := by decide +kernel
theorem dX8_count_66 : decode cX8_count 66 = .ok (.getfield 169, 3) := by decide +kernel
theorem dX8_count_69 : decode cX8_count 69 = .ok (.ireturn, 1) := by decide +kernel
theorem dX8_count_70 : decode cX8_count 70 = .ok (.iload_n 1, 1) := by decide +kernel
theorem dX8_count_71 : decode cX8_count 71 = .ok (.bipush 10, 2) := by decide +kernel
theorem dX8_count_73 : decode cX8_count 73 = .ok (.bipush 17, 2) := by decide +kernel
theorem dX8_count_75 : decode cX8_count 75 = .ok (.invokestatic 78, 3) := by decide +kernel
theorem dX8_count_78 : decode cX8_count 78 = .ok (.ifCond .eq 18, 3) := by decide +kernel
theorem dX8_count_81 : decode cX8_count 81 = .ok (.aload_n 0, 1) := by decide +kernel
theorem dX8_count_82 : decode cX8_count 82 = .ok (.getfield 10, 3) := by decide +kernel
theorem dX8_count_85 : decode cX8_count 85 = .ok (.getfield 172, 3) := by decide +kernel
theorem dX8_count_88 : decode cX8_count 88 = .ok (.iload_n 1, 1) := by decide +kernel
theorem dX8_count_89 : decode cX8_count 89 = .ok (.bipush 10, 2) := by decide +kernel
theorem dX8_count_91 : decode cX8_count 91 = .ok (.isub, 1) := by decide +kernel
theorem dX8_count_92 : decode cX8_count 92 = .ok (.iaload, 1) := by decide +kernel
theorem dX8_count_93 : decode cX8_count 93 = .ok (.goto 5, 3) := by decide +kernel
theorem dX8_count_96 : decode cX8_count 96 = .ok (.ldc 85, 2) := by decide +kernel
theorem dX8_count_98 : decode cX8_count 98 = .ok (.ireturn, 1) := by decide +kernel
set_option maxRecDepth 20000 in
theorem ggX8_begin_X7_copyFrom : GoodIn wsX8_begin wsX7_copyFrom := goodIn_r _ [7, 8, 9, 10, 11, 12, 13, 14, 15, 16, 17, 18, 19, 20, 21, 22, 23, 24, 25, 26, 27, 28, 29, 30, 31, 32, 33, 34, 35, 36, 37, 38, 39, 40, 41, 42, 49, 50, 51, 52, 53, 54, 55, 56, 57, 58, 59, 60, 61, 62, 63, 64, 65, 66, 67] (by decide +kernel) (by decide +kernel)
set_option maxRecDepth 20000 in
theorem gX8_begin_X7_copyFrom : GoodIn wsX8_begin (wsV RX8 209 RX7 yX7_copyFrom wsX7_copyFrom) := goodIn_app (goodIn_of _ (by decide +kernel)) ggX8_begin_X7_copyFrom
theorem dX8_begin_0 : decode cX8_begin 0 = .ok (.aload_n 0, 1) := by decide +kernel
theorem dX8_begin_1 : decode cX8_begin 1 = .ok (.getfield 16, 3) := by decide +kernel
theorem dX8_begin_4 : decode cX8_begin 4 = .ok (.aload_n 0, 1) := by decide +kernel
theorem dX8_begin_5 : decode cX8_begin 5 = .ok (.getfield 10, 3) := by decide +kernel
theorem dX8_begin_8 : decode cX8_begin 8 = .ok (.invokevirtual 209, 3) := by decide +kernel
theorem dX8_begin_11 : decode cX8_begin 11 = .ok (.aload_n 0, 1) := by decide +kernel
theorem dX8_begin_12 : decode cX8_begin 12 = .ok (.getfield 16, 3) := by decide +kernel
theorem dX8_begin_15 : decode cX8_begin 15 = .ok (.areturn, 1) := by decide +kernel
set_option maxRecDepth 20000 in
theorem ggX8_settle_X8_isError : GoodIn wsX8_settle wsX8_isError := goodIn_r _ [7, 8] (by decide +kernel) (by decide +kernel)
set_option maxRecDepth 20000 in
theorem gX8_settle_X8_isError : GoodIn wsX8_settle (va_wsS RX8 213 yX8_isError wsX8_isError) := goodIn_app (goodIn_of _ (by decide +kernel)) ggX8_settle_X8_isError
set_option maxRecDepth 20000 in
theorem ggX8_settle_X1_keep : GoodIn wsX8_settle wsX1_keep := goodIn_r _ [13, 14, 15, 16, 17, 18, 12, 19, 20, 21, 22, 23, 24, 25, 26, 27, 28, 29, 30, 31, 32, 33, 34, 35, 36, 37, 38, 39, 40, 41, 42, 43, 44, 45, 46, 47, 48, 49, 50, 51, 52, 53, 54, 55, 56, 57, 58, 59, 67, 68, 69, 70, 71, 72, 73, 74, 75, 76, 77, 78, 79, 80, 81, 82, 83, 84, 85, 86, 87] (by decide +kernel) (by decide +kernel)
set_option maxRecDepth 20000 in
theorem gX8_settle_X1_keep : GoodIn wsX8_settle (wsV RX8 217 RX1 yX1_keep wsX1_keep) := goodIn_app (goodIn_of _ (by decide +kernel)) ggX8_settle_X1_keep
set_option maxRecDepth 20000 in
theorem ggX8_settle_X7_copyFrom : GoodIn wsX8_settle wsX7_copyFrom := goodIn_r _ [24, 25, 26, 27, 28, 29, 30, 31, 32, 33, 34, 35, 36, 37, 38, 39, 40, 41, 42, 43, 44, 45, 46, 47, 48, 49, 50, 51, 52, 53, 54, 55, 56, 57, 58, 59, 69, 70, 71, 72, 73, 74, 75, 76, 77, 78, 79, 80, 81, 82, 83, 84, 85, 86, 87] (by decide +kernel) (by decide +kernel)
set_option maxRecDepth 20000 in
theorem gX8_settle_X7_copyFrom : GoodIn wsX8_settle (wsV RX8 209 RX7 yX7_copyFrom wsX7_copyFrom) := goodIn_app (goodIn_of _ (by decide +kernel)) ggX8_settle_X7_copyFrom
theorem dX8_settle_0 : decode cX8_settle 0 = .ok (.iload_n 1, 1) := by decide +kernel
theorem dX8_settle_1 : decode cX8_settle 1 = .ok (.invokestatic 213, 3) := by decide +kernel
theorem dX8_settle_4 : decode cX8_settle 4 = .ok (.ifCond .ne 25, 3) := by decide +kernel
theorem dX8_settle_7 : decode cX8_settle 7 = .ok (.aload_n 0, 1) := by decide +kernel
theorem dX8_settle_8 : decode cX8_settle 8 = .ok (.getfield 22, 3) := by decide +kernel
theorem dX8_settle_11 : decode cX8_settle 11 = .ok (.aload_n 0, 1) := by decide +kernel
theorem dX8_settle_12 : decode cX8_settle 12 = .ok (.getfield 10, 3) := by decide +kernel
theorem dX8_settle_15 : decode cX8_settle 15 = .ok (.invokevirtual 217, 3) := by decide +kernel
theorem dX8_settle_18 : decode cX8_settle 18 = .ok (.aload_n 0, 1) := by decide +kernel
theorem dX8_settle_19 : decode cX8_settle 19 = .ok (.getfield 10, 3) := by decide +kernel
theorem dX8_settle_22 : decode cX8_settle 22 = .ok (.aload_n 0, 1) := by decide +kernel
theorem dX8_settle_23 : decode cX8_settle 23 = .ok (.getfield 16, 3) := by decide +kernel
theorem dX8_settle_26 : decode cX8_settle 26 = .ok (.invokevirtual 209, 3) := by decide +kernel
theorem dX8_settle_29 : decode cX8_settle 29 = .ok (.iload_n 1, 1) := by decide +kernel
theorem dX8_settle_30 : decode cX8_settle 30 = .ok (.ireturn, 1) := by decide +kernel
theorem dX8_isError_0 : decode cX8_isError 0 = .ok (.iload_n 0, 1) := by decide +kernel
theorem dX8_isError_1 : decode cX8_isError 1 = .ok (.ldc 85, 2) := by decide +kernel
theorem dX8_isError_3 : decode cX8_isError 3 = .ok (.if_icmp .gt 7, 3) := by decide +kernel
theorem dX8_isError_6 : decode cX8_isError 6 = .ok (.iconst 1, 1) := by decide +kernel
theorem dX8_isError_7 : decode cX8_isError 7 = .ok (.goto 4, 3) := by decide +kernel
theorem dX8_isError_10 : decode cX8_isError 10 = .ok (.iconst 0, 1) := by decide +kernel
theorem dX8_isError_11 : decode cX8_isError 11 = .ok (.ireturn, 1) := by decide +kernel
theorem dX8_within_0 : decode cX8_within 0 = .ok (.iload_n 0, 1) := by decide +kernel
theorem dX8_within_1 : decode cX8_within 1 = .ok (.iload_n 1, 1) := by decide +kernel
theorem dX8_within_2 : decode cX8_within 2 = .ok (.if_icmp .lt 12, 3) := by decide +kernel
theorem dX8_within_5 : decode cX8_within 5 = .ok (.iload_n 0, 1) := by decide +kernel
theorem dX8_within_6 : decode cX8_within 6 = .ok (.iload_n 2, 1) := by decide +kernel
theorem dX8_within_7 : decode cX8_within 7 = .ok (.if_icmp .gt 7, 3) := by decide +kernel
theorem dX8_within_10 : decode cX8_within 10 = .ok (.iconst 1, 1) := by decide +kernel
theorem dX8_within_11 : decode cX8_within 11 = .ok (.goto 4, 3) := by decide +kernel
theorem dX8_within_14 : decode cX8_within 14 = .ok (.iconst 0, 1) := by decide +kernel
theorem dX8_within_15 : decode cX8_within 15 = .ok (.ireturn, 1) := by decide +kernel
theorem dX8_isBeyondEnd_0 : decode cX8_isBeyondEnd 0 = .ok (.iload_n 0, 1) := by decide +kernel
theorem dX8_isBeyondEnd_1 : decode cX8_isBeyondEnd 1 = .ok (.sipush (-3000), 3) := by decide +kernel
theorem dX8_isBeyondEnd_4 : decode cX8_isBeyondEnd 4 = .ok (.if_icmp .lt 10, 3) := by decide +kernel
theorem dX8_isBeyondEnd_7 : decode cX8_isBeyondEnd 7 = .ok (.iload_n 0, 1) := by decide +kernel
theorem dX8_isBeyondEnd_8 : decode cX8_isBeyondEnd 8 = .ok (.sipush 3000, 3) := by decide +kernel
theorem dX8_isBeyondEnd_11 : decode cX8_isBeyondEnd 11 = .ok (.if_icmp .le 7, 3) := by decide +kernel
theorem dX8_isBeyondEnd_14 : decode cX8_isBeyondEnd 14 = .ok (.iconst 1, 1) := by decide +kernel
theorem dX8_isBeyondEnd_15 : decode cX8_isBeyondEnd 15 = .ok (.goto 4, 3) := by decide +kernel
theorem dX8_isBeyondEnd_18 : decode cX8_isBeyondEnd 18 = .ok (.iconst 0, 1) := by decide +kernel
theorem dX8_isBeyondEnd_19 : decode cX8_isBeyondEnd 19 = .ok (.ireturn, 1) := by decide +kernel
theorem dJ9_abs_0f7a4_0 : decode cJ9_abs_0f7a4 0 = .ok (.iload_n 0, 1) := by decide +kernel
theorem dJ9_abs_0f7a4_1 : decode cJ9_abs_0f7a4 1 = .ok (.ifCond .ge 8, 3) := by decide +kernel
theorem dJ9_abs_0f7a4_4 : decode cJ9_abs_0f7a4 4 = .ok (.iload_n 0, 1) := by decide +kernel
theorem dJ9_abs_0f7a4_5 : decode cJ9_abs_0f7a4 5 = .ok (.ineg, 1) := by decide +kernel
theorem dJ9_abs_0f7a4_6 : decode cJ9_abs_0f7a4 6 = .ok (.goto 4, 3) := by decide +kernel
theorem dJ9_abs_0f7a4_9 : decode cJ9_abs_0f7a4 9 = .ok (.iload_n 0, 1) := by decide +kernel
theorem dJ9_abs_0f7a4_10 : decode cJ9_abs_0f7a4 10 = .ok (.ireturn, 1) := by decide +kernel
theorem dJ9_max_7cf53_0 : decode cJ9_max_7cf53 0 = .ok (.iload_n 0, 1) := by decide +kernel
theorem dJ9_max_7cf53_1 : decode cJ9_max_7cf53 1 = .ok (.iload_n 1, 1) := by decide +kernel
theorem dJ9_max_7cf53_2 : decode cJ9_max_7cf53 2 = .ok (.if_icmp .lt 7, 3) := by decide +kernel
theorem dJ9_max_7cf53_5 : decode cJ9_max_7cf53 5 = .ok (.iload_n 0, 1) := by decide +kernel
theorem dJ9_max_7cf53_6 : decode cJ9_max_7cf53 6 = .ok (.goto 4, 3) := by decide +kernel
theorem dJ9_max_7cf53_9 : decode cJ9_max_7cf53 9 = .ok (.iload_n 1, 1) := by decide +kernel
theorem dJ9_max_7cf53_10 : decode cJ9_max_7cf53 10 = .ok (.ireturn, 1) := by decide +kernel
theorem dJ9_min_7cf53_0 : decode cJ9_min_7cf53 0 = .ok (.iload_n 0, 1) := by decide +kernel
theorem dJ9_min_7cf53_1 : decode cJ9_min_7cf53 1 = .ok (.iload_n 1, 1) := by decide +kernel
theorem dJ9_min_7cf53_2 : decode cJ9_min_7cf53 2 = .ok (.if_icmp .gt 7, 3) := by decide +kernel
theorem dJ9_min_7cf53_5 : decode cJ9_min_7cf53 5 = .ok (.iload_n 0, 1) := by decide +kernel
theorem dJ9_min_7cf53_6 : decode cJ9_min_7cf53 6 = .ok (.goto 4, 3) := by decide +kernel
theorem dJ9_min_7cf53_9 : decode cJ9_min_7cf53 9 = .ok (.iload_n 1, 1) := by decide +kernel
theorem dJ9_min_7cf53_10 : decode cJ9_min_7cf53 10 = .ok (.ireturn, 1) := by decide +kernel
theorem dL_cell_0 : decode cL_cell 0 = .ok (.iload_n 1, 1) := by decide +kernel
theorem dL_cell_1 : decode cL_cell 1 = .ok (.aload_n 0, 1) := by decide +kernel
theorem dL_cell_2 : decode cL_cell 2 = .ok (.arraylength, 1) := by decide +kernel
theorem dL_cell_3 : decode cL_cell 3 = .ok (.if_icmp .ge 9, 3) := by decide +kernel
theorem dL_cell_6 : decode cL_cell 6 = .ok (.aload_n 0, 1) := by decide +kernel
theorem dL_cell_7 : decode cL_cell 7 = .ok (.iload_n 1, 1) := by decide +kernel
theorem dL_cell_8 : decode cL_cell 8 = .ok (.iaload, 1) := by decide +kernel
theorem dL_cell_9 : decode cL_cell 9 = .ok (.goto 9, 3) := by decide +kernel
theorem dL_cell_12 : decode cL_cell 12 = .ok (.ldc 7, 2) := by decide +kernel
theorem dL_cell_14 : decode cL_cell 14 = .ok (.iload_n 1, 1) := by decide +kernel
theorem dL_cell_15 : decode cL_cell 15 = .ok (.iconst 3, 1) := by decide +kernel
theorem dL_cell_16 : decode cL_cell 16 = .ok (.iadd, 1) := by decide +kernel
theorem dL_cell_17 : decode cL_cell 17 = .ok (.imul, 1) := by decide +kernel
theorem dL_cell_18 : decode cL_cell 18 = .ok (.ireturn, 1) := by decide +kernel
theorem dL_low_0 : decode cL_low 0 = .ok (.iload_n 0, 1) := by decide +kernel
theorem dL_low_1 : decode cL_low 1 = .ok (.ldc 8, 2) := by decide +kernel
theorem dL_low_3 : decode cL_low 3 = .ok (.iand, 1) := by decide +kernel
theorem dL_low_4 : decode cL_low 4 = .ok (.iload_n 1, 1) := by decide +kernel
theorem dL_low_5 : decode cL_low 5 = .ok (.irem, 1) := by decide +kernel
theorem dL_low_6 : decode cL_low 6 = .ok (.ireturn, 1) := by decide +kernel
theorem dL_load_0 : decode cL_load 0 = .ok (.iconst 0, 1) := by decide +kernel
theorem dL_load_1 : decode cL_load 1 = .ok (.istore_n 3, 1) := by decide +kernel
theorem dL_load_2 : decode cL_load 2 = .ok (.iconst 0, 1) := by decide +kernel
theorem dL_load_3 : decode cL_load 3 = .ok (.istore 4, 2) := by decide +kernel
theorem dL_load_5 : decode cL_load 5 = .ok (.iload 4, 2) := by decide +kernel
theorem dL_load_7 : decode cL_load 7 = .ok (.aload_n 0, 1) := by decide +kernel
theorem dL_load_8 : decode cL_load 8 = .ok (.bipush 18, 2) := by decide +kernel
theorem dL_load_10 : decode cL_load 10 = .ok (.iaload, 1) := by decide +kernel
theorem dL_load_11 : decode cL_load 11 = .ok (.if_icmp .ge 46, 3) := by decide +kernel
theorem dL_load_14 : decode cL_load 14 = .ok (.iload_n 3, 1) := by decide +kernel
theorem dL_load_15 : decode cL_load 15 = .ok (.iload_n 2, 1) := by decide +kernel
theorem dL_load_16 : decode cL_load 16 = .ok (.aload_n 1, 1) := by decide +kernel
theorem dL_load_17 : decode cL_load 17 = .ok (.iconst 3, 1) := by decide +kernel
theorem dL_load_18 : decode cL_load 18 = .ok (.iload 4, 2) := by decide +kernel
theorem dL_load_20 : decode cL_load 20 = .ok (.imul, 1) := by decide +kernel
theorem dL_load_21 : decode cL_load 21 = .ok (.iaload, 1) := by decide +kernel
theorem dL_load_22 : decode cL_load 22 = .ok (.if_icmp .lt 26, 3) := by decide +kernel
theorem dL_load_25 : decode cL_load 25 = .ok (.iload_n 2, 1) := by decide +kernel
theorem dL_load_26 : decode cL_load 26 = .ok (.aload_n 1, 1) := by decide +kernel
theorem dL_load_27 : decode cL_load 27 = .ok (.iconst 3, 1) := by decide +kernel
theorem dL_load_28 : decode cL_load 28 = .ok (.iload 4, 2) := by decide +kernel
theorem dL_load_30 : decode cL_load 30 = .ok (.imul, 1) := by decide +kernel
theorem dL_load_31 : decode cL_load 31 = .ok (.iconst 1, 1) := by decide +kernel
theorem dL_load_32 : decode cL_load 32 = .ok (.iadd, 1) := by decide +kernel
theorem dL_load_33 : decode cL_load 33 = .ok (.iaload, 1) := by decide +kernel
theorem dL_load_34 : decode cL_load 34 = .ok (.if_icmp .gt 14, 3) := by decide +kernel
theorem dL_load_37 : decode cL_load 37 = .ok (.aload_n 1, 1) := by decide +kernel
theorem dL_load_38 : decode cL_load 38 = .ok (.iconst 3, 1) := by decide +kernel
theorem dL_load_39 : decode cL_load 39 = .ok (.iload 4, 2) := by decide +kernel
theorem dL_load_41 : decode cL_load 41 = .ok (.imul, 1) := by decide +kernel
theorem dL_load_42 : decode cL_load 42 = .ok (.iconst 2, 1) := by decide +kernel
theorem dL_load_43 : decode cL_load 43 = .ok (.iadd, 1) := by decide +kernel
theorem dL_load_44 : decode cL_load 44 = .ok (.iaload, 1) := by decide +kernel
theorem dL_load_45 : decode cL_load 45 = .ok (.goto 4, 3) := by decide +kernel
theorem dL_load_48 : decode cL_load 48 = .ok (.iconst 0, 1) := by decide +kernel
theorem dL_load_49 : decode cL_load 49 = .ok (.iadd, 1) := by decide +kernel
theorem dL_load_50 : decode cL_load 50 = .ok (.istore_n 3, 1) := by decide +kernel
theorem dL_load_51 : decode cL_load 51 = .ok (.iinc 4 1, 3) := by decide +kernel
theorem dL_load_54 : decode cL_load 54 = .ok (.goto (-49), 3) := by decide +kernel
theorem dL_load_57 : decode cL_load 57 = .ok (.iload_n 3, 1) := by decide +kernel
theorem dL_load_58 : decode cL_load 58 = .ok (.ireturn, 1) := by decide +kernel
theorem dL_ramp_0 : decode cL_ramp 0 = .ok (.iconst 0, 1) := by decide +kernel
theorem dL_ramp_1 : decode cL_ramp 1 = .ok (.istore 4, 2) := by decide +kernel
theorem dL_ramp_3 : decode cL_ramp 3 = .ok (.aload_n 2, 1) := by decide +kernel
theorem dL_ramp_4 : decode cL_ramp 4 = .ok (.iconst 0, 1) := by decide +kernel
theorem dL_ramp_5 : decode cL_ramp 5 = .ok (.aload_n 0, 1) := by decide +kernel
theorem dL_ramp_6 : decode cL_ramp 6 = .ok (.iconst 0, 1) := by decide +kernel
theorem dL_ramp_7 : decode cL_ramp 7 = .ok (.iaload, 1) := by decide +kernel
theorem dL_ramp_8 : decode cL_ramp 8 = .ok (.iastore, 1) := by decide +kernel
theorem dL_ramp_9 : decode cL_ramp 9 = .ok (.aload_n 3, 1) := by decide +kernel
theorem dL_ramp_10 : decode cL_ramp 10 = .ok (.iconst 0, 1) := by decide +kernel
theorem dL_ramp_11 : decode cL_ramp 11 = .ok (.iconst 0, 1) := by decide +kernel
theorem dL_ramp_12 : decode cL_ramp 12 = .ok (.iastore, 1) := by decide +kernel
theorem dL_ramp_13 : decode cL_ramp 13 = .ok (.aload_n 0, 1) := by decide +kernel
theorem dL_ramp_14 : decode cL_ramp 14 = .ok (.iconst 0, 1) := by decide +kernel
theorem dL_ramp_15 : decode cL_ramp 15 = .ok (.iaload, 1) := by decide +kernel
theorem dL_ramp_16 : decode cL_ramp 16 = .ok (.aload_n 0, 1) := by decide +kernel
theorem dL_ramp_17 : decode cL_ramp 17 = .ok (.iconst 1, 1) := by decide +kernel
theorem dL_ramp_18 : decode cL_ramp 18 = .ok (.iaload, 1) := by decide +kernel
theorem dL_ramp_19 : decode cL_ramp 19 = .ok (.if_icmp .gt 5, 3) := by decide +kernel
theorem dL_ramp_22 : decode cL_ramp 22 = .ok (.iconst 0, 1) := by decide +kernel
theorem dL_ramp_23 : decode cL_ramp 23 = .ok (.ireturn, 1) := by decide +kernel
theorem dL_ramp_24 : decode cL_ramp 24 = .ok (.iload 4, 2) := by decide +kernel
theorem dL_ramp_26 : decode cL_ramp 26 = .ok (.iload_n 1, 1) := by decide +kernel
theorem dL_ramp_27 : decode cL_ramp 27 = .ok (.if_icmp .ge 75, 3) := by decide +kernel
theorem dL_ramp_30 : decode cL_ramp 30 = .ok (.iconst 2, 1) := by decide +kernel
theorem dL_ramp_31 : decode cL_ramp 31 = .ok (.aload_n 2, 1) := by decide +kernel
theorem dL_ramp_32 : decode cL_ramp 32 = .ok (.iload 4, 2) := by decide +kernel
theorem dL_ramp_34 : decode cL_ramp 34 = .ok (.iaload, 1) := by decide +kernel
theorem dL_ramp_35 : decode cL_ramp 35 = .ok (.imul, 1) := by decide +kernel
theorem dL_ramp_36 : decode cL_ramp 36 = .ok (.aload_n 3, 1) := by decide +kernel
theorem dL_ramp_37 : decode cL_ramp 37 = .ok (.iload 4, 2) := by decide +kernel
theorem dL_ramp_39 : decode cL_ramp 39 = .ok (.iaload, 1) := by decide +kernel
theorem dL_ramp_40 : decode cL_ramp 40 = .ok (.iadd, 1) := by decide +kernel
theorem dL_ramp_41 : decode cL_ramp 41 = .ok (.istore 5, 2) := by decide +kernel
theorem dL_ramp_43 : decode cL_ramp 43 = .ok (.iinc 4 1, 3) := by decide +kernel
theorem dL_ramp_46 : decode cL_ramp 46 = .ok (.aload_n 3, 1) := by decide +kernel
theorem dL_ramp_47 : decode cL_ramp 47 = .ok (.iload 4, 2) := by decide +kernel
theorem dL_ramp_49 : decode cL_ramp 49 = .ok (.iload 5, 2) := by decide +kernel
theorem dL_ramp_51 : decode cL_ramp 51 = .ok (.iconst 4, 1) := by decide +kernel
theorem dL_ramp_52 : decode cL_ramp 52 = .ok (.iload 4, 2) := by decide +kernel
theorem dL_ramp_54 : decode cL_ramp 54 = .ok (.imul, 1) := by decide +kernel
theorem dL_ramp_55 : decode cL_ramp 55 = .ok (.iconst 1, 1) := by decide +kernel
theorem dL_ramp_56 : decode cL_ramp 56 = .ok (.iadd, 1) := by decide +kernel
theorem dL_ramp_57 : decode cL_ramp 57 = .ok (.irem, 1) := by decide +kernel
theorem dL_ramp_58 : decode cL_ramp 58 = .ok (.iastore, 1) := by decide +kernel
theorem dL_ramp_59 : decode cL_ramp 59 = .ok (.aload_n 2, 1) := by decide +kernel
theorem dL_ramp_60 : decode cL_ramp 60 = .ok (.iload 4, 2) := by decide +kernel
theorem dL_ramp_62 : decode cL_ramp 62 = .ok (.aload_n 2, 1) := by decide +kernel
theorem dL_ramp_63 : decode cL_ramp 63 = .ok (.iload 4, 2) := by decide +kernel
theorem dL_ramp_65 : decode cL_ramp 65 = .ok (.iconst 1, 1) := by decide +kernel
theorem dL_ramp_66 : decode cL_ramp 66 = .ok (.isub, 1) := by decide +kernel
theorem dL_ramp_67 : decode cL_ramp 67 = .ok (.iaload, 1) := by decide +kernel
theorem dL_ramp_68 : decode cL_ramp 68 = .ok (.iload 5, 2) := by decide +kernel
theorem dL_ramp_70 : decode cL_ramp 70 = .ok (.iconst 4, 1) := by decide +kernel
theorem dL_ramp_71 : decode cL_ramp 71 = .ok (.iload 4, 2) := by decide +kernel
theorem dL_ramp_73 : decode cL_ramp 73 = .ok (.imul, 1) := by decide +kernel
theorem dL_ramp_74 : decode cL_ramp 74 = .ok (.iconst 1, 1) := by decide +kernel
theorem dL_ramp_75 : decode cL_ramp 75 = .ok (.iadd, 1) := by decide +kernel
theorem dL_ramp_76 : decode cL_ramp 76 = .ok (.idiv, 1) := by decide +kernel
theorem dL_ramp_77 : decode cL_ramp 77 = .ok (.isub, 1) := by decide +kernel
theorem dL_ramp_78 : decode cL_ramp 78 = .ok (.iastore, 1) := by decide +kernel
theorem dL_ramp_79 : decode cL_ramp 79 = .ok (.aload_n 2, 1) := by decide +kernel
theorem dL_ramp_80 : decode cL_ramp 80 = .ok (.iload 4, 2) := by decide +kernel
theorem dL_ramp_82 : decode cL_ramp 82 = .ok (.iaload, 1) := by decide +kernel
theorem dL_ramp_83 : decode cL_ramp 83 = .ok (.aload_n 0, 1) := by decide +kernel
theorem dL_ramp_84 : decode cL_ramp 84 = .ok (.iconst 1, 1) := by decide +kernel
theorem dL_ramp_85 : decode cL_ramp 85 = .ok (.iaload, 1) := by decide +kernel
theorem dL_ramp_86 : decode cL_ramp 86 = .ok (.if_icmp .gt 13, 3) := by decide +kernel
theorem dL_ramp_89 : decode cL_ramp 89 = .ok (.aload_n 2, 1) := by decide +kernel
theorem dL_ramp_90 : decode cL_ramp 90 = .ok (.iload 4, 2) := by decide +kernel
theorem dL_ramp_92 : decode cL_ramp 92 = .ok (.aload_n 0, 1) := by decide +kernel
theorem dL_ramp_93 : decode cL_ramp 93 = .ok (.iconst 1, 1) := by decide +kernel
theorem dL_ramp_94 : decode cL_ramp 94 = .ok (.iaload, 1) := by decide +kernel
theorem dL_ramp_95 : decode cL_ramp 95 = .ok (.iastore, 1) := by decide +kernel
theorem dL_ramp_96 : decode cL_ramp 96 = .ok (.iload 4, 2) := by decide +kernel
theorem dL_ramp_98 : decode cL_ramp 98 = .ok (.ireturn, 1) := by decide +kernel
theorem dL_ramp_99 : decode cL_ramp 99 = .ok (.goto (-75), 3) := by decide +kernel
theorem dL_ramp_102 : decode cL_ramp 102 = .ok (.iload 4, 2) := by decide +kernel
theorem dL_ramp_104 : decode cL_ramp 104 = .ok (.ireturn, 1) := by decide +kernel
theorem dL_pull_0 : decode cL_pull 0 = .ok (.iload_n 1, 1) := by decide +kernel
theorem dL_pull_1 : decode cL_pull 1 = .ok (.aload_n 0, 1) := by decide +kernel
theorem dL_pull_2 : decode cL_pull 2 = .ok (.iconst 4, 1) := by decide +kernel
theorem dL_pull_3 : decode cL_pull 3 = .ok (.iaload, 1) := by decide +kernel
theorem dL_pull_4 : decode cL_pull 4 = .ok (.imul, 1) := by decide +kernel
theorem dL_pull_5 : decode cL_pull 5 = .ok (.bipush 16, 2) := by decide +kernel
theorem dL_pull_7 : decode cL_pull 7 = .ok (.idiv, 1) := by decide +kernel
theorem dL_pull_8 : decode cL_pull 8 = .ok (.istore_n 2, 1) := by decide +kernel
theorem dL_pull_9 : decode cL_pull 9 = .ok (.aload_n 0, 1) := by decide +kernel
theorem dL_pull_10 : decode cL_pull 10 = .ok (.iconst 3, 1) := by decide +kernel
theorem dL_pull_11 : decode cL_pull 11 = .ok (.iaload, 1) := by decide +kernel
theorem dL_pull_12 : decode cL_pull 12 = .ok (.iload_n 2, 1) := by decide +kernel
theorem dL_pull_13 : decode cL_pull 13 = .ok (.if_icmp .le 11, 3) := by decide +kernel
theorem dL_pull_16 : decode cL_pull 16 = .ok (.aload_n 0, 1) := by decide +kernel
theorem dL_pull_17 : decode cL_pull 17 = .ok (.iconst 3, 1) := by decide +kernel
theorem dL_pull_18 : decode cL_pull 18 = .ok (.iaload, 1) := by decide +kernel
theorem dL_pull_19 : decode cL_pull 19 = .ok (.iload_n 2, 1) := by decide +kernel
theorem dL_pull_20 : decode cL_pull 20 = .ok (.isub, 1) := by decide +kernel
theorem dL_pull_21 : decode cL_pull 21 = .ok (.goto 4, 3) := by decide +kernel
theorem dL_pull_24 : decode cL_pull 24 = .ok (.iconst 0, 1) := by decide +kernel
theorem dL_pull_25 : decode cL_pull 25 = .ok (.ireturn, 1) := by decide +kernel
set_option maxRecDepth 20000 in
theorem ggL_step_L_load : GoodIn wsL_step wsL_load := goodIn_r _ [5] (by decide +kernel) (by decide +kernel)
set_option maxRecDepth 20000 in
theorem gL_step_L_load : GoodIn wsL_step (va_wsS RL 9 yL_load wsL_load) := goodIn_app (goodIn_of _ (by decide +kernel)) ggL_step_L_load
set_option maxRecDepth 20000 in
theorem ggL_step_L_pull : GoodIn wsL_step wsL_pull := goodIn_r _ [8] (by decide +kernel) (by decide +kernel)
set_option maxRecDepth 20000 in
theorem gL_step_L_pull : GoodIn wsL_step (va_wsS RL 15 yL_pull wsL_pull) := goodIn_app (goodIn_of _ (by decide +kernel)) ggL_step_L_pull
theorem dL_step_0 : decode cL_step 0 = .ok (.aload_n 0, 1) := by decide +kernel
theorem dL_step_1 : decode cL_step 1 = .ok (.bipush 11, 2) := by decide +kernel
theorem dL_step_3 : decode cL_step 3 = .ok (.iaload, 1) := by decide +kernel
theorem dL_step_4 : decode cL_step 4 = .ok (.iload_n 3, 1) := by decide +kernel
theorem dL_step_5 : decode cL_step 5 = .ok (.iadd, 1) := by decide +kernel
theorem dL_step_6 : decode cL_step 6 = .ok (.istore 5, 2) := by decide +kernel
theorem dL_step_8 : decode cL_step 8 = .ok (.aload_n 0, 1) := by decide +kernel
theorem dL_step_9 : decode cL_step 9 = .ok (.aload_n 1, 1) := by decide +kernel
theorem dL_step_10 : decode cL_step 10 = .ok (.aload_n 0, 1) := by decide +kernel
theorem dL_step_11 : decode cL_step 11 = .ok (.bipush 11, 2) := by decide +kernel
theorem dL_step_13 : decode cL_step 13 = .ok (.iaload, 1) := by decide +kernel
theorem dL_step_14 : decode cL_step 14 = .ok (.invokestatic 9, 3) := by decide +kernel
theorem dL_step_17 : decode cL_step 17 = .ok (.aload_n 0, 1) := by decide +kernel
theorem dL_step_18 : decode cL_step 18 = .ok (.iload 4, 2) := by decide +kernel
theorem dL_step_20 : decode cL_step 20 = .ok (.invokestatic 15, 3) := by decide +kernel
theorem dL_step_23 : decode cL_step 23 = .ok (.if_icmp .gt 23, 3) := by decide +kernel
theorem dL_step_26 : decode cL_step 26 = .ok (.iload 5, 2) := by decide +kernel
theorem dL_step_28 : decode cL_step 28 = .ok (.sipush (-3000), 3) := by decide +kernel
theorem dL_step_31 : decode cL_step 31 = .ok (.if_icmp .lt 15, 3) := by decide +kernel
theorem dL_step_34 : decode cL_step 34 = .ok (.iload 5, 2) := by decide +kernel
theorem dL_step_36 : decode cL_step 36 = .ok (.sipush 3000, 3) := by decide +kernel
theorem dL_step_39 : decode cL_step 39 = .ok (.if_icmp .gt 7, 3) := by decide +kernel
theorem dL_step_42 : decode cL_step 42 = .ok (.iconst 1, 1) := by decide +kernel
theorem dL_step_43 : decode cL_step 43 = .ok (.goto 4, 3) := by decide +kernel
theorem dL_step_46 : decode cL_step 46 = .ok (.iconst 0, 1) := by decide +kernel
theorem dL_step_47 : decode cL_step 47 = .ok (.istore 6, 2) := by decide +kernel
theorem dL_step_49 : decode cL_step 49 = .ok (.aload_n 0, 1) := by decide +kernel
theorem dL_step_50 : decode cL_step 50 = .ok (.bipush 10, 2) := by decide +kernel
theorem dL_step_52 : decode cL_step 52 = .ok (.dup2, 1) := by decide +kernel
theorem dL_step_53 : decode cL_step 53 = .ok (.iaload, 1) := by decide +kernel
theorem dL_step_54 : decode cL_step 54 = .ok (.iload_n 3, 1) := by decide +kernel
theorem dL_step_55 : decode cL_step 55 = .ok (.iadd, 1) := by decide +kernel
theorem dL_step_56 : decode cL_step 56 = .ok (.iastore, 1) := by decide +kernel
theorem dL_step_57 : decode cL_step 57 = .ok (.aload_n 0, 1) := by decide +kernel
theorem dL_step_58 : decode cL_step 58 = .ok (.bipush 11, 2) := by decide +kernel
theorem dL_step_60 : decode cL_step 60 = .ok (.iload 6, 2) := by decide +kernel
theorem dL_step_62 : decode cL_step 62 = .ok (.ifCond .eq 8, 3) := by decide +kernel
theorem dL_step_65 : decode cL_step 65 = .ok (.iload 5, 2) := by decide +kernel
theorem dL_step_67 : decode cL_step 67 = .ok (.goto 7, 3) := by decide +kernel
theorem dL_step_70 : decode cL_step 70 = .ok (.aload_n 0, 1) := by decide +kernel
theorem dL_step_71 : decode cL_step 71 = .ok (.bipush 11, 2) := by decide +kernel
theorem dL_step_73 : decode cL_step 73 = .ok (.iaload, 1) := by decide +kernel
theorem dL_step_74 : decode cL_step 74 = .ok (.iastore, 1) := by decide +kernel
theorem dL_step_75 : decode cL_step 75 = .ok (.aload_n 0, 1) := by decide +kernel
theorem dL_step_76 : decode cL_step 76 = .ok (.bipush 15, 2) := by decide +kernel
theorem dL_step_78 : decode cL_step 78 = .ok (.dup2, 1) := by decide +kernel
theorem dL_step_79 : decode cL_step 79 = .ok (.iaload, 1) := by decide +kernel
theorem dL_step_80 : decode cL_step 80 = .ok (.iconst 1, 1) := by decide +kernel
theorem dL_step_81 : decode cL_step 81 = .ok (.iadd, 1) := by decide +kernel
theorem dL_step_82 : decode cL_step 82 = .ok (.iastore, 1) := by decide +kernel
theorem dL_step_83 : decode cL_step 83 = .ok (.aload_n 0, 1) := by decide +kernel
theorem dL_step_84 : decode cL_step 84 = .ok (.bipush 16, 2) := by decide +kernel
theorem dL_step_86 : decode cL_step 86 = .ok (.dup2, 1) := by decide +kernel
theorem dL_step_87 : decode cL_step 87 = .ok (.iaload, 1) := by decide +kernel
theorem dL_step_88 : decode cL_step 88 = .ok (.iload 6, 2) := by decide +kernel
theorem dL_step_90 : decode cL_step 90 = .ok (.ifCond .eq 7, 3) := by decide +kernel
theorem dL_step_93 : decode cL_step 93 = .ok (.iconst 0, 1) := by decide +kernel
theorem dL_step_94 : decode cL_step 94 = .ok (.goto 4, 3) := by decide +kernel
theorem dL_step_97 : decode cL_step 97 = .ok (.iconst 1, 1) := by decide +kernel
theorem dL_step_98 : decode cL_step 98 = .ok (.iadd, 1) := by decide +kernel
theorem dL_step_99 : decode cL_step 99 = .ok (.iastore, 1) := by decide +kernel
theorem dL_step_100 : decode cL_step 100 = .ok (.aload_n 0, 1) := by decide +kernel
theorem dL_step_101 : decode cL_step 101 = .ok (.bipush 17, 2) := by decide +kernel
theorem dL_step_103 : decode cL_step 103 = .ok (.aload_n 0, 1) := by decide +kernel
theorem dL_step_104 : decode cL_step 104 = .ok (.bipush 17, 2) := by decide +kernel
theorem dL_step_106 : decode cL_step 106 = .ok (.iaload, 1) := by decide +kernel
theorem dL_step_107 : decode cL_step 107 = .ok (.aload_n 2, 1) := by decide +kernel
theorem dL_step_108 : decode cL_step 108 = .ok (.iload 4, 2) := by decide +kernel
theorem dL_step_110 : decode cL_step 110 = .ok (.iaload, 1) := by decide +kernel
theorem dL_step_111 : decode cL_step 111 = .ok (.iadd, 1) := by decide +kernel
theorem dL_step_112 : decode cL_step 112 = .ok (.ldc 19, 2) := by decide +kernel
theorem dL_step_114 : decode cL_step 114 = .ok (.irem, 1) := by decide +kernel
theorem dL_step_115 : decode cL_step 115 = .ok (.iastore, 1) := by decide +kernel
theorem dL_step_116 : decode cL_step 116 = .ok (.aload_n 0, 1) := by decide +kernel
theorem dL_step_117 : decode cL_step 117 = .ok (.bipush 14, 2) := by decide +kernel
theorem dL_step_119 : decode cL_step 119 = .ok (.aload_n 0, 1) := by decide +kernel
theorem dL_step_120 : decode cL_step 120 = .ok (.bipush 11, 2) := by decide +kernel
theorem dL_step_122 : decode cL_step 122 = .ok (.iaload, 1) := by decide +kernel
theorem dL_step_123 : decode cL_step 123 = .ok (.aload_n 0, 1) := by decide +kernel
theorem dL_step_124 : decode cL_step 124 = .ok (.iconst 5, 1) := by decide +kernel
theorem dL_step_125 : decode cL_step 125 = .ok (.iaload, 1) := by decide +kernel
theorem dL_step_126 : decode cL_step 126 = .ok (.if_icmp .gt 7, 3) := by decide +kernel
theorem dL_step_129 : decode cL_step 129 = .ok (.iconst 1, 1) := by decide +kernel
theorem dL_step_130 : decode cL_step 130 = .ok (.goto 26, 3) := by decide +kernel
theorem dL_step_133 : decode cL_step 133 = .ok (.aload_n 0, 1) := by decide +kernel
theorem dL_step_134 : decode cL_step 134 = .ok (.bipush 11, 2) := by decide +kernel
theorem dL_step_136 : decode cL_step 136 = .ok (.iaload, 1) := by decide +kernel
theorem dL_step_137 : decode cL_step 137 = .ok (.aload_n 0, 1) := by decide +kernel
theorem dL_step_138 : decode cL_step 138 = .ok (.iconst 5, 1) := by decide +kernel
theorem dL_step_139 : decode cL_step 139 = .ok (.iaload, 1) := by decide +kernel
theorem dL_step_140 : decode cL_step 140 = .ok (.aload_n 0, 1) := by decide +kernel
theorem dL_step_141 : decode cL_step 141 = .ok (.bipush 6, 2) := by decide +kernel
theorem dL_step_143 : decode cL_step 143 = .ok (.iaload, 1) := by decide +kernel
theorem dL_step_144 : decode cL_step 144 = .ok (.iadd, 1) := by decide +kernel
theorem dL_step_145 : decode cL_step 145 = .ok (.if_icmp .le 7, 3) := by decide +kernel
theorem dL_step_148 : decode cL_step 148 = .ok (.iconst 0, 1) := by decide +kernel
theorem dL_step_149 : decode cL_step 149 = .ok (.goto 7, 3) := by decide +kernel
theorem dL_step_152 : decode cL_step 152 = .ok (.aload_n 0, 1) := by decide +kernel
theorem dL_step_153 : decode cL_step 153 = .ok (.bipush 14, 2) := by decide +kernel
theorem dL_step_155 : decode cL_step 155 = .ok (.iaload, 1) := by decide +kernel
theorem dL_step_156 : decode cL_step 156 = .ok (.iastore, 1) := by decide +kernel
theorem dL_step_157 : decode cL_step 157 = .ok (.iload 6, 2) := by decide +kernel
theorem dL_step_159 : decode cL_step 159 = .ok (.ireturn, 1) := by decide +kernel
set_option maxRecDepth 20000 in
theorem ggL_go_L_ramp : GoodIn wsL_go wsL_ramp := goodIn_r _ [6] (by decide +kernel) (by decide +kernel)
set_option maxRecDepth 20000 in
theorem gL_go_L_ramp : GoodIn wsL_go (va_wsS RL 20 yL_ramp wsL_ramp) := goodIn_app (goodIn_of _ (by decide +kernel)) ggL_go_L_ramp
set_option maxRecDepth 20000 in
theorem ggL_go_L_step : GoodIn wsL_go wsL_step := goodIn_r _ [9, 10, 11, 12, 5, 13, 14, 15, 16] (by decide +kernel) (by decide +kernel)
set_option maxRecDepth 20000 in
theorem gL_go_L_step : GoodIn wsL_go (va_wsS RL 25 yL_step wsL_step) := goodIn_app (goodIn_of _ (by decide +kernel)) ggL_go_L_step
theorem dL_go_0 : decode cL_go 0 = .ok (.bipush 64, 2) := by decide +kernel
theorem dL_go_2 : decode cL_go 2 = .ok (.newarray .int, 2) := by decide +kernel
theorem dL_go_4 : decode cL_go 4 = .ok (.astore 5, 2) := by decide +kernel
theorem dL_go_6 : decode cL_go 6 = .ok (.bipush 64, 2) := by decide +kernel
theorem dL_go_8 : decode cL_go 8 = .ok (.newarray .int, 2) := by decide +kernel
theorem dL_go_10 : decode cL_go 10 = .ok (.astore 6, 2) := by decide +kernel
theorem dL_go_12 : decode cL_go 12 = .ok (.aload_n 0, 1) := by decide +kernel
theorem dL_go_13 : decode cL_go 13 = .ok (.iload_n 2, 1) := by decide +kernel
theorem dL_go_14 : decode cL_go 14 = .ok (.aload 5, 2) := by decide +kernel
theorem dL_go_16 : decode cL_go 16 = .ok (.aload 6, 2) := by decide +kernel
theorem dL_go_18 : decode cL_go 18 = .ok (.invokestatic 20, 3) := by decide +kernel
theorem dL_go_21 : decode cL_go 21 = .ok (.istore 7, 2) := by decide +kernel
theorem dL_go_23 : decode cL_go 23 = .ok (.iload_n 3, 1) := by decide +kernel
theorem dL_go_24 : decode cL_go 24 = .ok (.aload_n 0, 1) := by decide +kernel
theorem dL_go_25 : decode cL_go 25 = .ok (.bipush 10, 2) := by decide +kernel
theorem dL_go_27 : decode cL_go 27 = .ok (.iaload, 1) := by decide +kernel
theorem dL_go_28 : decode cL_go 28 = .ok (.if_icmp .ge 7, 3) := by decide +kernel
theorem dL_go_31 : decode cL_go 31 = .ok (.iconst (-1), 1) := by decide +kernel
theorem dL_go_32 : decode cL_go 32 = .ok (.goto 4, 3) := by decide +kernel
theorem dL_go_35 : decode cL_go 35 = .ok (.iconst 1, 1) := by decide +kernel
theorem dL_go_36 : decode cL_go 36 = .ok (.istore 8, 2) := by decide +kernel
theorem dL_go_38 : decode cL_go 38 = .ok (.iload 8, 2) := by decide +kernel
theorem dL_go_40 : decode cL_go 40 = .ok (.iload_n 3, 1) := by decide +kernel
theorem dL_go_41 : decode cL_go 41 = .ok (.aload_n 0, 1) := by decide +kernel
theorem dL_go_42 : decode cL_go 42 = .ok (.bipush 10, 2) := by decide +kernel
theorem dL_go_44 : decode cL_go 44 = .ok (.iaload, 1) := by decide +kernel
theorem dL_go_45 : decode cL_go 45 = .ok (.isub, 1) := by decide +kernel
theorem dL_go_46 : decode cL_go 46 = .ok (.imul, 1) := by decide +kernel
theorem dL_go_47 : decode cL_go 47 = .ok (.istore 9, 2) := by decide +kernel
theorem dL_go_49 : decode cL_go 49 = .ok (.iconst 0, 1) := by decide +kernel
theorem dL_go_50 : decode cL_go 50 = .ok (.istore 10, 2) := by decide +kernel
theorem dL_go_52 : decode cL_go 52 = .ok (.aload 4, 2) := by decide +kernel
theorem dL_go_54 : decode cL_go 54 = .ok (.iconst 0, 1) := by decide +kernel
theorem dL_go_55 : decode cL_go 55 = .ok (.iconst 0, 1) := by decide +kernel
theorem dL_go_56 : decode cL_go 56 = .ok (.iastore, 1) := by decide +kernel
theorem dL_go_57 : decode cL_go 57 = .ok (.aload 4, 2) := by decide +kernel
theorem dL_go_59 : decode cL_go 59 = .ok (.iconst 1, 1) := by decide +kernel
theorem dL_go_60 : decode cL_go 60 = .ok (.iconst 0, 1) := by decide +kernel
theorem dL_go_61 : decode cL_go 61 = .ok (.iastore, 1) := by decide +kernel
theorem dL_go_62 : decode cL_go 62 = .ok (.aload 4, 2) := by decide +kernel
theorem dL_go_64 : decode cL_go 64 = .ok (.iconst 2, 1) := by decide +kernel
theorem dL_go_65 : decode cL_go 65 = .ok (.iconst 0, 1) := by decide +kernel
theorem dL_go_66 : decode cL_go 66 = .ok (.iastore, 1) := by decide +kernel
theorem dL_go_67 : decode cL_go 67 = .ok (.aload 4, 2) := by decide +kernel
theorem dL_go_69 : decode cL_go 69 = .ok (.iconst 3, 1) := by decide +kernel
theorem dL_go_70 : decode cL_go 70 = .ok (.ldc 24, 2) := by decide +kernel
theorem dL_go_72 : decode cL_go 72 = .ok (.iastore, 1) := by decide +kernel
theorem dL_go_73 : decode cL_go 73 = .ok (.iload 9, 2) := by decide +kernel
theorem dL_go_75 : decode cL_go 75 = .ok (.ifCond .le 126, 3) := by decide +kernel
theorem dL_go_78 : decode cL_go 78 = .ok (.iinc 9 (-1), 3) := by decide +kernel
theorem dL_go_81 : decode cL_go 81 = .ok (.iload 10, 2) := by decide +kernel
theorem dL_go_83 : decode cL_go 83 = .ok (.iload 9, 2) := by decide +kernel
theorem dL_go_85 : decode cL_go 85 = .ok (.if_icmp .ge 8, 3) := by decide +kernel
theorem dL_go_88 : decode cL_go 88 = .ok (.iload 10, 2) := by decide +kernel
theorem dL_go_90 : decode cL_go 90 = .ok (.goto 5, 3) := by decide +kernel
theorem dL_go_93 : decode cL_go 93 = .ok (.iload 9, 2) := by decide +kernel
theorem dL_go_95 : decode cL_go 95 = .ok (.istore 11, 2) := by decide +kernel
theorem dL_go_97 : decode cL_go 97 = .ok (.iload 11, 2) := by decide +kernel
theorem dL_go_99 : decode cL_go 99 = .ok (.iload 7, 2) := by decide +kernel
theorem dL_go_101 : decode cL_go 101 = .ok (.if_icmp .ge 8, 3) := by decide +kernel
theorem dL_go_104 : decode cL_go 104 = .ok (.iload 11, 2) := by decide +kernel
theorem dL_go_106 : decode cL_go 106 = .ok (.goto 5, 3) := by decide +kernel
theorem dL_go_109 : decode cL_go 109 = .ok (.iload 7, 2) := by decide +kernel
theorem dL_go_111 : decode cL_go 111 = .ok (.istore 11, 2) := by decide +kernel
theorem dL_go_113 : decode cL_go 113 = .ok (.aload_n 0, 1) := by decide +kernel
theorem dL_go_114 : decode cL_go 114 = .ok (.bipush 11, 2) := by decide +kernel
theorem dL_go_116 : decode cL_go 116 = .ok (.iaload, 1) := by decide +kernel
theorem dL_go_117 : decode cL_go 117 = .ok (.istore 12, 2) := by decide +kernel
theorem dL_go_119 : decode cL_go 119 = .ok (.aload_n 0, 1) := by decide +kernel
theorem dL_go_120 : decode cL_go 120 = .ok (.aload_n 1, 1) := by decide +kernel
theorem dL_go_121 : decode cL_go 121 = .ok (.aload 5, 2) := by decide +kernel
theorem dL_go_123 : decode cL_go 123 = .ok (.iload 8, 2) := by decide +kernel
theorem dL_go_125 : decode cL_go 125 = .ok (.iload 11, 2) := by decide +kernel
theorem dL_go_127 : decode cL_go 127 = .ok (.invokestatic 25, 3) := by decide +kernel
theorem dL_go_130 : decode cL_go 130 = .ok (.ifCond .ne 31, 3) := by decide +kernel
theorem dL_go_133 : decode cL_go 133 = .ok (.aload 4, 2) := by decide +kernel
theorem dL_go_135 : decode cL_go 135 = .ok (.iconst 3, 1) := by decide +kernel
theorem dL_go_136 : decode cL_go 136 = .ok (.aload 4, 2) := by decide +kernel
theorem dL_go_138 : decode cL_go 138 = .ok (.iconst 0, 1) := by decide +kernel
theorem dL_go_139 : decode cL_go 139 = .ok (.iaload, 1) := by decide +kernel
theorem dL_go_140 : decode cL_go 140 = .ok (.ifCond .ne 8, 3) := by decide +kernel
theorem dL_go_143 : decode cL_go 143 = .ok (.iload 12, 2) := by decide +kernel
theorem dL_go_145 : decode cL_go 145 = .ok (.goto 7, 3) := by decide +kernel
theorem dL_go_148 : decode cL_go 148 = .ok (.aload 4, 2) := by decide +kernel
theorem dL_go_150 : decode cL_go 150 = .ok (.iconst 3, 1) := by decide +kernel
theorem dL_go_151 : decode cL_go 151 = .ok (.iaload, 1) := by decide +kernel
theorem dL_go_152 : decode cL_go 152 = .ok (.iastore, 1) := by decide +kernel
theorem dL_go_153 : decode cL_go 153 = .ok (.aload 4, 2) := by decide +kernel
theorem dL_go_155 : decode cL_go 155 = .ok (.iconst 0, 1) := by decide +kernel
theorem dL_go_156 : decode cL_go 156 = .ok (.dup2, 1) := by decide +kernel
theorem dL_go_157 : decode cL_go 157 = .ok (.iaload, 1) := by decide +kernel
theorem dL_go_158 : decode cL_go 158 = .ok (.iconst 1, 1) := by decide +kernel
theorem dL_go_159 : decode cL_go 159 = .ok (.iadd, 1) := by decide +kernel
theorem dL_go_160 : decode cL_go 160 = .ok (.iastore, 1) := by decide +kernel
theorem dL_go_161 : decode cL_go 161 = .ok (.aload 4, 2) := by decide +kernel
theorem dL_go_163 : decode cL_go 163 = .ok (.iconst 1, 1) := by decide +kernel
theorem dL_go_164 : decode cL_go 164 = .ok (.dup2, 1) := by decide +kernel
theorem dL_go_165 : decode cL_go 165 = .ok (.iaload, 1) := by decide +kernel
theorem dL_go_166 : decode cL_go 166 = .ok (.aload 5, 2) := by decide +kernel
theorem dL_go_168 : decode cL_go 168 = .ok (.iload 11, 2) := by decide +kernel
theorem dL_go_170 : decode cL_go 170 = .ok (.iaload, 1) := by decide +kernel
theorem dL_go_171 : decode cL_go 171 = .ok (.iadd, 1) := by decide +kernel
theorem dL_go_172 : decode cL_go 172 = .ok (.iastore, 1) := by decide +kernel
theorem dL_go_173 : decode cL_go 173 = .ok (.aload 4, 2) := by decide +kernel
theorem dL_go_175 : decode cL_go 175 = .ok (.iconst 2, 1) := by decide +kernel
theorem dL_go_176 : decode cL_go 176 = .ok (.iload 11, 2) := by decide +kernel
theorem dL_go_178 : decode cL_go 178 = .ok (.aload 4, 2) := by decide +kernel
theorem dL_go_180 : decode cL_go 180 = .ok (.iconst 2, 1) := by decide +kernel
theorem dL_go_181 : decode cL_go 181 = .ok (.iaload, 1) := by decide +kernel
theorem dL_go_182 : decode cL_go 182 = .ok (.if_icmp .le 8, 3) := by decide +kernel
theorem dL_go_185 : decode cL_go 185 = .ok (.iload 11, 2) := by decide +kernel
theorem dL_go_187 : decode cL_go 187 = .ok (.goto 7, 3) := by decide +kernel
theorem dL_go_190 : decode cL_go 190 = .ok (.aload 4, 2) := by decide +kernel
theorem dL_go_192 : decode cL_go 192 = .ok (.iconst 2, 1) := by decide +kernel
theorem dL_go_193 : decode cL_go 193 = .ok (.iaload, 1) := by decide +kernel
theorem dL_go_194 : decode cL_go 194 = .ok (.iastore, 1) := by decide +kernel
theorem dL_go_195 : decode cL_go 195 = .ok (.iinc 10 1, 3) := by decide +kernel
theorem dL_go_198 : decode cL_go 198 = .ok (.goto (-125), 3) := by decide +kernel
theorem dL_go_201 : decode cL_go 201 = .ok (.return_, 1) := by decide +kernel
theorem dL_copy_0 : decode cL_copy 0 = .ok (.iconst 0, 1) := by decide +kernel
theorem dL_copy_1 : decode cL_copy 1 = .ok (.istore_n 2, 1) := by decide +kernel
theorem dL_copy_2 : decode cL_copy 2 = .ok (.iload_n 2, 1) := by decide +kernel
theorem dL_copy_3 : decode cL_copy 3 = .ok (.aload_n 1, 1) := by decide +kernel
theorem dL_copy_4 : decode cL_copy 4 = .ok (.arraylength, 1) := by decide +kernel
theorem dL_copy_5 : decode cL_copy 5 = .ok (.if_icmp .ge 15, 3) := by decide +kernel
theorem dL_copy_8 : decode cL_copy 8 = .ok (.aload_n 1, 1) := by decide +kernel
theorem dL_copy_9 : decode cL_copy 9 = .ok (.iload_n 2, 1) := by decide +kernel
theorem dL_copy_10 : decode cL_copy 10 = .ok (.aload_n 0, 1) := by decide +kernel
theorem dL_copy_11 : decode cL_copy 11 = .ok (.iload_n 2, 1) := by decide +kernel
theorem dL_copy_12 : decode cL_copy 12 = .ok (.iaload, 1) := by decide +kernel
theorem dL_copy_13 : decode cL_copy 13 = .ok (.iastore, 1) := by decide +kernel
theorem dL_copy_14 : decode cL_copy 14 = .ok (.iinc 2 1, 3) := by decide +kernel
theorem dL_copy_17 : decode cL_copy 17 = .ok (.goto (-15), 3) := by decide +kernel
theorem dL_copy_20 : decode cL_copy 20 = .ok (.return_, 1) := by decide +kernel
set_option maxRecDepth 20000 in
theorem ggL_creep_L_step : GoodIn wsL_creep wsL_step := goodIn_r _ [5, 6, 7, 8, 4, 9, 10, 11, 12] (by decide +kernel) (by decide +kernel)
set_option maxRecDepth 20000 in
theorem gL_creep_L_step : GoodIn wsL_creep (va_wsS RL 25 yL_step wsL_step) := goodIn_app (goodIn_of _ (by decide +kernel)) ggL_creep_L_step
theorem dL_creep_0 : decode cL_creep 0 = .ok (.iload_n 3, 1) := by decide +kernel
theorem dL_creep_1 : decode cL_creep 1 = .ok (.ifCond .ge 7, 3) := by decide +kernel
theorem dL_creep_4 : decode cL_creep 4 = .ok (.iconst 1, 1) := by decide +kernel
theorem dL_creep_5 : decode cL_creep 5 = .ok (.goto 4, 3) := by decide +kernel
theorem dL_creep_8 : decode cL_creep 8 = .ok (.iconst 0, 1) := by decide +kernel
theorem dL_creep_9 : decode cL_creep 9 = .ok (.istore 4, 2) := by decide +kernel
theorem dL_creep_11 : decode cL_creep 11 = .ok (.iconst 0, 1) := by decide +kernel
theorem dL_creep_12 : decode cL_creep 12 = .ok (.istore 5, 2) := by decide +kernel
theorem dL_creep_14 : decode cL_creep 14 = .ok (.iconst 1, 1) := by decide +kernel
theorem dL_creep_15 : decode cL_creep 15 = .ok (.istore 6, 2) := by decide +kernel
theorem dL_creep_17 : decode cL_creep 17 = .ok (.aload_n 0, 1) := by decide +kernel
theorem dL_creep_18 : decode cL_creep 18 = .ok (.bipush 14, 2) := by decide +kernel
theorem dL_creep_20 : decode cL_creep 20 = .ok (.iaload, 1) := by decide +kernel
theorem dL_creep_21 : decode cL_creep 21 = .ok (.iload 4, 2) := by decide +kernel
theorem dL_creep_23 : decode cL_creep 23 = .ok (.if_icmp .eq 27, 3) := by decide +kernel
theorem dL_creep_26 : decode cL_creep 26 = .ok (.iload 5, 2) := by decide +kernel
theorem dL_creep_28 : decode cL_creep 28 = .ok (.sipush 4001, 3) := by decide +kernel
theorem dL_creep_31 : decode cL_creep 31 = .ok (.if_icmp .ge 19, 3) := by decide +kernel
theorem dL_creep_34 : decode cL_creep 34 = .ok (.aload_n 0, 1) := by decide +kernel
theorem dL_creep_35 : decode cL_creep 35 = .ok (.aload_n 1, 1) := by decide +kernel
theorem dL_creep_36 : decode cL_creep 36 = .ok (.aload_n 2, 1) := by decide +kernel
theorem dL_creep_37 : decode cL_creep 37 = .ok (.iload_n 3, 1) := by decide +kernel
theorem dL_creep_38 : decode cL_creep 38 = .ok (.iconst 0, 1) := by decide +kernel
theorem dL_creep_39 : decode cL_creep 39 = .ok (.invokestatic 25, 3) := by decide +kernel
theorem dL_creep_42 : decode cL_creep 42 = .ok (.istore 6, 2) := by decide +kernel
theorem dL_creep_44 : decode cL_creep 44 = .ok (.iinc 5 1, 3) := by decide +kernel
theorem dL_creep_47 : decode cL_creep 47 = .ok (.goto (-30), 3) := by decide +kernel
theorem dL_creep_50 : decode cL_creep 50 = .ok (.iload 5, 2) := by decide +kernel
theorem dL_creep_52 : decode cL_creep 52 = .ok (.sipush 4000, 3) := by decide +kernel
theorem dL_creep_55 : decode cL_creep 55 = .ok (.if_icmp .gt 22, 3) := by decide +kernel
theorem dL_creep_58 : decode cL_creep 58 = .ok (.aload_n 0, 1) := by decide +kernel
theorem dL_creep_59 : decode cL_creep 59 = .ok (.bipush 14, 2) := by decide +kernel
theorem dL_creep_61 : decode cL_creep 61 = .ok (.iaload, 1) := by decide +kernel
theorem dL_creep_62 : decode cL_creep 62 = .ok (.iload 4, 2) := by decide +kernel
theorem dL_creep_64 : decode cL_creep 64 = .ok (.if_icmp .ne 13, 3) := by decide +kernel
theorem dL_creep_67 : decode cL_creep 67 = .ok (.iload 5, 2) := by decide +kernel
theorem dL_creep_69 : decode cL_creep 69 = .ok (.ifCond .ge 13, 3) := by decide +kernel
theorem dL_creep_72 : decode cL_creep 72 = .ok (.iload 6, 2) := by decide +kernel
theorem dL_creep_74 : decode cL_creep 74 = .ok (.ifCond .eq 8, 3) := by decide +kernel
theorem dL_creep_77 : decode cL_creep 77 = .ok (.ldc 29, 2) := by decide +kernel
theorem dL_creep_79 : decode cL_creep 79 = .ok (.goto 5, 3) := by decide +kernel
theorem dL_creep_82 : decode cL_creep 82 = .ok (.iload 5, 2) := by decide +kernel
theorem dL_creep_84 : decode cL_creep 84 = .ok (.ireturn, 1) := by decide +kernel
set_option maxRecDepth 20000 in
theorem ggL_home_L_ramp : GoodIn wsL_home wsL_ramp := goodIn_r _ [6] (by decide +kernel) (by decide +kernel)
set_option maxRecDepth 20000 in
theorem gL_home_L_ramp : GoodIn wsL_home (va_wsS RL 20 yL_ramp wsL_ramp) := goodIn_app (goodIn_of _ (by decide +kernel)) ggL_home_L_ramp
set_option maxRecDepth 20000 in
theorem ggL_home_L_step : GoodIn wsL_home wsL_step := goodIn_r _ [9, 10, 11, 12, 5, 13, 14, 15, 16] (by decide +kernel) (by decide +kernel)
set_option maxRecDepth 20000 in
theorem gL_home_L_step : GoodIn wsL_home (va_wsS RL 25 yL_step wsL_step) := goodIn_app (goodIn_of _ (by decide +kernel)) ggL_home_L_step
set_option maxRecDepth 20000 in
theorem ggL_home_L_creep : GoodIn wsL_home wsL_creep := goodIn_r _ [19, 2, 7, 8, 5, 9, 10, 11, 12, 13, 14, 15, 16] (by decide +kernel) (by decide +kernel)
set_option maxRecDepth 20000 in
theorem gL_home_L_creep : GoodIn wsL_home (va_wsS RL 30 yL_creep wsL_creep) := goodIn_app (goodIn_of _ (by decide +kernel)) ggL_home_L_creep
theorem dL_home_0 : decode cL_home 0 = .ok (.bipush 64, 2) := by decide +kernel
theorem dL_home_2 : decode cL_home 2 = .ok (.newarray .int, 2) := by decide +kernel
theorem dL_home_4 : decode cL_home 4 = .ok (.astore_n 2, 1) := by decide +kernel
theorem dL_home_5 : decode cL_home 5 = .ok (.bipush 64, 2) := by decide +kernel
theorem dL_home_7 : decode cL_home 7 = .ok (.newarray .int, 2) := by decide +kernel
theorem dL_home_9 : decode cL_home 9 = .ok (.astore_n 3, 1) := by decide +kernel
theorem dL_home_10 : decode cL_home 10 = .ok (.aload_n 0, 1) := by decide +kernel
theorem dL_home_11 : decode cL_home 11 = .ok (.aload_n 0, 1) := by decide +kernel
theorem dL_home_12 : decode cL_home 12 = .ok (.iconst 2, 1) := by decide +kernel
theorem dL_home_13 : decode cL_home 13 = .ok (.iaload, 1) := by decide +kernel
theorem dL_home_14 : decode cL_home 14 = .ok (.aload_n 2, 1) := by decide +kernel
theorem dL_home_15 : decode cL_home 15 = .ok (.aload_n 3, 1) := by decide +kernel
theorem dL_home_16 : decode cL_home 16 = .ok (.invokestatic 20, 3) := by decide +kernel
theorem dL_home_19 : decode cL_home 19 = .ok (.istore 4, 2) := by decide +kernel
theorem dL_home_21 : decode cL_home 21 = .ok (.aload_n 0, 1) := by decide +kernel
theorem dL_home_22 : decode cL_home 22 = .ok (.bipush 7, 2) := by decide +kernel
theorem dL_home_24 : decode cL_home 24 = .ok (.iaload, 1) := by decide +kernel
theorem dL_home_25 : decode cL_home 25 = .ok (.iload 4, 2) := by decide +kernel
theorem dL_home_27 : decode cL_home 27 = .ok (.if_icmp .ge 10, 3) := by decide +kernel
theorem dL_home_30 : decode cL_home 30 = .ok (.aload_n 0, 1) := by decide +kernel
theorem dL_home_31 : decode cL_home 31 = .ok (.bipush 7, 2) := by decide +kernel
theorem dL_home_33 : decode cL_home 33 = .ok (.iaload, 1) := by decide +kernel
theorem dL_home_34 : decode cL_home 34 = .ok (.goto 5, 3) := by decide +kernel
theorem dL_home_37 : decode cL_home 37 = .ok (.iload 4, 2) := by decide +kernel
theorem dL_home_39 : decode cL_home 39 = .ok (.istore 5, 2) := by decide +kernel
theorem dL_home_41 : decode cL_home 41 = .ok (.iconst 0, 1) := by decide +kernel
theorem dL_home_42 : decode cL_home 42 = .ok (.istore 6, 2) := by decide +kernel
theorem dL_home_44 : decode cL_home 44 = .ok (.iconst 0, 1) := by decide +kernel
theorem dL_home_45 : decode cL_home 45 = .ok (.istore 7, 2) := by decide +kernel
theorem dL_home_47 : decode cL_home 47 = .ok (.iconst 1, 1) := by decide +kernel
theorem dL_home_48 : decode cL_home 48 = .ok (.istore 8, 2) := by decide +kernel
theorem dL_home_50 : decode cL_home 50 = .ok (.aload_n 0, 1) := by decide +kernel
theorem dL_home_51 : decode cL_home 51 = .ok (.bipush 14, 2) := by decide +kernel
theorem dL_home_53 : decode cL_home 53 = .ok (.iaload, 1) := by decide +kernel
theorem dL_home_54 : decode cL_home 54 = .ok (.ifCond .ne 44, 3) := by decide +kernel
theorem dL_home_57 : decode cL_home 57 = .ok (.iload 6, 2) := by decide +kernel
theorem dL_home_59 : decode cL_home 59 = .ok (.sipush 4001, 3) := by decide +kernel
theorem dL_home_62 : decode cL_home 62 = .ok (.if_icmp .ge 36, 3) := by decide +kernel
theorem dL_home_65 : decode cL_home 65 = .ok (.iload 6, 2) := by decide +kernel
theorem dL_home_67 : decode cL_home 67 = .ok (.iload 5, 2) := by decide +kernel
theorem dL_home_69 : decode cL_home 69 = .ok (.if_icmp .ge 8, 3) := by decide +kernel
theorem dL_home_72 : decode cL_home 72 = .ok (.iload 6, 2) := by decide +kernel
theorem dL_home_74 : decode cL_home 74 = .ok (.goto 5, 3) := by decide +kernel
theorem dL_home_77 : decode cL_home 77 = .ok (.iload 5, 2) := by decide +kernel
theorem dL_home_79 : decode cL_home 79 = .ok (.istore 7, 2) := by decide +kernel
theorem dL_home_81 : decode cL_home 81 = .ok (.aload_n 0, 1) := by decide +kernel
theorem dL_home_82 : decode cL_home 82 = .ok (.aload_n 1, 1) := by decide +kernel
theorem dL_home_83 : decode cL_home 83 = .ok (.aload_n 2, 1) := by decide +kernel
theorem dL_home_84 : decode cL_home 84 = .ok (.iconst (-1), 1) := by decide +kernel
theorem dL_home_85 : decode cL_home 85 = .ok (.iload 7, 2) := by decide +kernel
theorem dL_home_87 : decode cL_home 87 = .ok (.invokestatic 25, 3) := by decide +kernel
theorem dL_home_90 : decode cL_home 90 = .ok (.istore 8, 2) := by decide +kernel
theorem dL_home_92 : decode cL_home 92 = .ok (.iinc 6 1, 3) := by decide +kernel
theorem dL_home_95 : decode cL_home 95 = .ok (.goto (-45), 3) := by decide +kernel
theorem dL_home_98 : decode cL_home 98 = .ok (.iload 6, 2) := by decide +kernel
theorem dL_home_100 : decode cL_home 100 = .ok (.sipush 4000, 3) := by decide +kernel
theorem dL_home_103 : decode cL_home 103 = .ok (.if_icmp .le 6, 3) := by decide +kernel
theorem dL_home_106 : decode cL_home 106 = .ok (.ldc 29, 2) := by decide +kernel
theorem dL_home_108 : decode cL_home 108 = .ok (.ireturn, 1) := by decide +kernel
theorem dL_home_109 : decode cL_home 109 = .ok (.iload 6, 2) := by decide +kernel
theorem dL_home_111 : decode cL_home 111 = .ok (.ifCond .ne 7, 3) := by decide +kernel
theorem dL_home_114 : decode cL_home 114 = .ok (.iconst 0, 1) := by decide +kernel
theorem dL_home_115 : decode cL_home 115 = .ok (.goto 5, 3) := by decide +kernel
theorem dL_home_118 : decode cL_home 118 = .ok (.iload 7, 2) := by decide +kernel
theorem dL_home_120 : decode cL_home 120 = .ok (.istore 9, 2) := by decide +kernel
theorem dL_home_122 : decode cL_home 122 = .ok (.iload 9, 2) := by decide +kernel
theorem dL_home_124 : decode cL_home 124 = .ok (.ifCond .le 38, 3) := by decide +kernel
theorem dL_home_127 : decode cL_home 127 = .ok (.aload_n 0, 1) := by decide +kernel
theorem dL_home_128 : decode cL_home 128 = .ok (.aload_n 1, 1) := by decide +kernel
theorem dL_home_129 : decode cL_home 129 = .ok (.aload_n 2, 1) := by decide +kernel
theorem dL_home_130 : decode cL_home 130 = .ok (.iconst (-1), 1) := by decide +kernel
theorem dL_home_131 : decode cL_home 131 = .ok (.iload 9, 2) := by decide +kernel
theorem dL_home_133 : decode cL_home 133 = .ok (.iconst 1, 1) := by decide +kernel
theorem dL_home_134 : decode cL_home 134 = .ok (.isub, 1) := by decide +kernel
theorem dL_home_135 : decode cL_home 135 = .ok (.invokestatic 25, 3) := by decide +kernel
theorem dL_home_138 : decode cL_home 138 = .ok (.ifCond .ne 8, 3) := by decide +kernel
theorem dL_home_141 : decode cL_home 141 = .ok (.iload 8, 2) := by decide +kernel
theorem dL_home_143 : decode cL_home 143 = .ok (.ifCond .eq 7, 3) := by decide +kernel
theorem dL_home_146 : decode cL_home 146 = .ok (.iconst 1, 1) := by decide +kernel
theorem dL_home_147 : decode cL_home 147 = .ok (.goto 4, 3) := by decide +kernel
theorem dL_home_150 : decode cL_home 150 = .ok (.iconst 0, 1) := by decide +kernel
theorem dL_home_151 : decode cL_home 151 = .ok (.istore 8, 2) := by decide +kernel
theorem dL_home_153 : decode cL_home 153 = .ok (.iinc 6 1, 3) := by decide +kernel
theorem dL_home_156 : decode cL_home 156 = .ok (.iinc 9 (-1), 3) := by decide +kernel
theorem dL_home_159 : decode cL_home 159 = .ok (.goto (-37), 3) := by decide +kernel
theorem dL_home_162 : decode cL_home 162 = .ok (.aload_n 0, 1) := by decide +kernel
theorem dL_home_163 : decode cL_home 163 = .ok (.aload_n 1, 1) := by decide +kernel
theorem dL_home_164 : decode cL_home 164 = .ok (.aload_n 2, 1) := by decide +kernel
theorem dL_home_165 : decode cL_home 165 = .ok (.iconst 1, 1) := by decide +kernel
theorem dL_home_166 : decode cL_home 166 = .ok (.invokestatic 30, 3) := by decide +kernel
theorem dL_home_169 : decode cL_home 169 = .ok (.istore 9, 2) := by decide +kernel
theorem dL_home_171 : decode cL_home 171 = .ok (.iload 9, 2) := by decide +kernel
theorem dL_home_173 : decode cL_home 173 = .ok (.ifCond .ge 8, 3) := by decide +kernel
theorem dL_home_176 : decode cL_home 176 = .ok (.iload 9, 2) := by decide +kernel
theorem dL_home_178 : decode cL_home 178 = .ok (.goto 10, 3) := by decide +kernel
theorem dL_home_181 : decode cL_home 181 = .ok (.aload_n 0, 1) := by decide +kernel
theorem dL_home_182 : decode cL_home 182 = .ok (.aload_n 1, 1) := by decide +kernel
theorem dL_home_183 : decode cL_home 183 = .ok (.aload_n 2, 1) := by decide +kernel
theorem dL_home_184 : decode cL_home 184 = .ok (.iconst (-1), 1) := by decide +kernel
theorem dL_home_185 : decode cL_home 185 = .ok (.invokestatic 30, 3) := by decide +kernel
theorem dL_home_188 : decode cL_home 188 = .ok (.istore 10, 2) := by decide +kernel
theorem dL_home_190 : decode cL_home 190 = .ok (.iload 10, 2) := by decide +kernel
theorem dL_home_192 : decode cL_home 192 = .ok (.ifCond .ge 6, 3) := by decide +kernel
theorem dL_home_195 : decode cL_home 195 = .ok (.ldc 29, 2) := by decide +kernel
theorem dL_home_197 : decode cL_home 197 = .ok (.ireturn, 1) := by decide +kernel
theorem dL_home_198 : decode cL_home 198 = .ok (.aload_n 0, 1) := by decide +kernel
theorem dL_home_199 : decode cL_home 199 = .ok (.bipush 10, 2) := by decide +kernel
theorem dL_home_201 : decode cL_home 201 = .ok (.iconst 0, 1) := by decide +kernel
theorem dL_home_202 : decode cL_home 202 = .ok (.iastore, 1) := by decide +kernel
theorem dL_home_203 : decode cL_home 203 = .ok (.aload_n 0, 1) := by decide +kernel
theorem dL_home_204 : decode cL_home 204 = .ok (.bipush 12, 2) := by decide +kernel
theorem dL_home_206 : decode cL_home 206 = .ok (.aload_n 0, 1) := by decide +kernel
theorem dL_home_207 : decode cL_home 207 = .ok (.bipush 11, 2) := by decide +kernel
theorem dL_home_209 : decode cL_home 209 = .ok (.iaload, 1) := by decide +kernel
theorem dL_home_210 : decode cL_home 210 = .ok (.ineg, 1) := by decide +kernel
theorem dL_home_211 : decode cL_home 211 = .ok (.iastore, 1) := by decide +kernel
theorem dL_home_212 : decode cL_home 212 = .ok (.aload_n 0, 1) := by decide +kernel
theorem dL_home_213 : decode cL_home 213 = .ok (.bipush 13, 2) := by decide +kernel
theorem dL_home_215 : decode cL_home 215 = .ok (.iconst 1, 1) := by decide +kernel
theorem dL_home_216 : decode cL_home 216 = .ok (.iastore, 1) := by decide +kernel
theorem dL_home_217 : decode cL_home 217 = .ok (.iload 6, 2) := by decide +kernel
theorem dL_home_219 : decode cL_home 219 = .ok (.iload 9, 2) := by decide +kernel
theorem dL_home_221 : decode cL_home 221 = .ok (.iadd, 1) := by decide +kernel
theorem dL_home_222 : decode cL_home 222 = .ok (.iload 10, 2) := by decide +kernel
theorem dL_home_224 : decode cL_home 224 = .ok (.iadd, 1) := by decide +kernel
theorem dL_home_225 : decode cL_home 225 = .ok (.ireturn, 1) := by decide +kernel
theorem dL_can_0 : decode cL_can 0 = .ok (.iload_n 1, 1) := by decide +kernel
theorem dL_can_1 : decode cL_can 1 = .ok (.sipush (-4000), 3) := by decide +kernel
theorem dL_can_4 : decode cL_can 4 = .ok (.if_icmp .lt 37, 3) := by decide +kernel
theorem dL_can_7 : decode cL_can 7 = .ok (.iload_n 1, 1) := by decide +kernel
theorem dL_can_8 : decode cL_can 8 = .ok (.sipush 4000, 3) := by decide +kernel
theorem dL_can_11 : decode cL_can 11 = .ok (.if_icmp .gt 30, 3) := by decide +kernel
theorem dL_can_14 : decode cL_can 14 = .ok (.aload_n 0, 1) := by decide +kernel
theorem dL_can_15 : decode cL_can 15 = .ok (.bipush 13, 2) := by decide +kernel
theorem dL_can_17 : decode cL_can 17 = .ok (.iaload, 1) := by decide +kernel
theorem dL_can_18 : decode cL_can 18 = .ok (.ifCond .eq 19, 3) := by decide +kernel
theorem dL_can_21 : decode cL_can 21 = .ok (.iload_n 1, 1) := by decide +kernel
theorem dL_can_22 : decode cL_can 22 = .ok (.aload_n 0, 1) := by decide +kernel
theorem dL_can_23 : decode cL_can 23 = .ok (.bipush 8, 2) := by decide +kernel
theorem dL_can_25 : decode cL_can 25 = .ok (.iaload, 1) := by decide +kernel
theorem dL_can_26 : decode cL_can 26 = .ok (.if_icmp .lt 15, 3) := by decide +kernel
theorem dL_can_29 : decode cL_can 29 = .ok (.iload_n 1, 1) := by decide +kernel
theorem dL_can_30 : decode cL_can 30 = .ok (.aload_n 0, 1) := by decide +kernel
theorem dL_can_31 : decode cL_can 31 = .ok (.bipush 9, 2) := by decide +kernel
theorem dL_can_33 : decode cL_can 33 = .ok (.iaload, 1) := by decide +kernel
theorem dL_can_34 : decode cL_can 34 = .ok (.if_icmp .gt 7, 3) := by decide +kernel
theorem dL_can_37 : decode cL_can 37 = .ok (.iconst 1, 1) := by decide +kernel
theorem dL_can_38 : decode cL_can 38 = .ok (.goto 4, 3) := by decide +kernel
theorem dL_can_41 : decode cL_can 41 = .ok (.iconst 0, 1) := by decide +kernel
theorem dL_can_42 : decode cL_can 42 = .ok (.ireturn, 1) := by decide +kernel
theorem dL_value_0 : decode cL_value 0 = .ok (.iload_n 0, 1) := by decide +kernel
theorem dL_value_1 : decode cL_value 1 = .ok (.tableswitch 153 0 6 #[43, 64, 85, 90, 98, 114, 148], 43) := by decide +kernel
theorem dL_value_44 : decode cL_value 44 = .ok (.bipush 100, 2) := by decide +kernel
theorem dL_value_46 : decode cL_value 46 = .ok (.iload_n 1, 1) := by decide +kernel
theorem dL_value_47 : decode cL_value 47 = .ok (.iload_n 1, 1) := by decide +kernel
theorem dL_value_48 : decode cL_value 48 = .ok (.iconst 3, 1) := by decide +kernel
theorem dL_value_49 : decode cL_value 49 = .ok (.irem, 1) := by decide +kernel
theorem dL_value_50 : decode cL_value 50 = .ok (.ifCond .ne 9, 3) := by decide +kernel
theorem dL_value_53 : decode cL_value 53 = .ok (.sipush 4901, 3) := by decide +kernel
theorem dL_value_56 : decode cL_value 56 = .ok (.goto 6, 3) := by decide +kernel
theorem dL_value_59 : decode cL_value 59 = .ok (.sipush 1200, 3) := by decide +kernel
theorem dL_value_62 : decode cL_value 62 = .ok (.irem, 1) := by decide +kernel
theorem dL_value_63 : decode cL_value 63 = .ok (.iadd, 1) := by decide +kernel
theorem dL_value_64 : decode cL_value 64 = .ok (.ireturn, 1) := by decide +kernel
theorem dL_value_65 : decode cL_value 65 = .ok (.bipush 20, 2) := by decide +kernel
theorem dL_value_67 : decode cL_value 67 = .ok (.iload_n 1, 1) := by decide +kernel
theorem dL_value_68 : decode cL_value 68 = .ok (.iload_n 1, 1) := by decide +kernel
theorem dL_value_69 : decode cL_value 69 = .ok (.iconst 4, 1) := by decide +kernel
theorem dL_value_70 : decode cL_value 70 = .ok (.irem, 1) := by decide +kernel
theorem dL_value_71 : decode cL_value 71 = .ok (.ifCond .ne 9, 3) := by decide +kernel
theorem dL_value_74 : decode cL_value 74 = .ok (.sipush 981, 3) := by decide +kernel
theorem dL_value_77 : decode cL_value 77 = .ok (.goto 6, 3) := by decide +kernel
theorem dL_value_80 : decode cL_value 80 = .ok (.sipush 300, 3) := by decide +kernel
theorem dL_value_83 : decode cL_value 83 = .ok (.irem, 1) := by decide +kernel
theorem dL_value_84 : decode cL_value 84 = .ok (.iadd, 1) := by decide +kernel
theorem dL_value_85 : decode cL_value 85 = .ok (.ireturn, 1) := by decide +kernel
theorem dL_value_86 : decode cL_value 86 = .ok (.iload_n 1, 1) := by decide +kernel
theorem dL_value_87 : decode cL_value 87 = .ok (.bipush 61, 2) := by decide +kernel
theorem dL_value_89 : decode cL_value 89 = .ok (.irem, 1) := by decide +kernel
theorem dL_value_90 : decode cL_value 90 = .ok (.ireturn, 1) := by decide +kernel
theorem dL_value_91 : decode cL_value 91 = .ok (.iconst 1, 1) := by decide +kernel
theorem dL_value_92 : decode cL_value 92 = .ok (.iload_n 1, 1) := by decide +kernel
theorem dL_value_93 : decode cL_value 93 = .ok (.sipush 300, 3) := by decide +kernel
theorem dL_value_96 : decode cL_value 96 = .ok (.irem, 1) := by decide +kernel
theorem dL_value_97 : decode cL_value 97 = .ok (.iadd, 1) := by decide +kernel
theorem dL_value_98 : decode cL_value 98 = .ok (.ireturn, 1) := by decide +kernel
theorem dL_value_99 : decode cL_value 99 = .ok (.iload_n 1, 1) := by decide +kernel
theorem dL_value_100 : decode cL_value 100 = .ok (.iload_n 1, 1) := by decide +kernel
theorem dL_value_101 : decode cL_value 101 = .ok (.iconst 3, 1) := by decide +kernel
theorem dL_value_102 : decode cL_value 102 = .ok (.irem, 1) := by decide +kernel
theorem dL_value_103 : decode cL_value 103 = .ok (.ifCond .ne 8, 3) := by decide +kernel
theorem dL_value_106 : decode cL_value 106 = .ok (.bipush 101, 2) := by decide +kernel
theorem dL_value_108 : decode cL_value 108 = .ok (.goto 5, 3) := by decide +kernel
theorem dL_value_111 : decode cL_value 111 = .ok (.bipush 30, 2) := by decide +kernel
theorem dL_value_113 : decode cL_value 113 = .ok (.irem, 1) := by decide +kernel
theorem dL_value_114 : decode cL_value 114 = .ok (.ireturn, 1) := by decide +kernel
theorem dL_value_115 : decode cL_value 115 = .ok (.iload_n 1, 1) := by decide +kernel
theorem dL_value_116 : decode cL_value 116 = .ok (.iload_n 1, 1) := by decide +kernel
theorem dL_value_117 : decode cL_value 117 = .ok (.iconst 5, 1) := by decide +kernel
theorem dL_value_118 : decode cL_value 118 = .ok (.irem, 1) := by decide +kernel
theorem dL_value_119 : decode cL_value 119 = .ok (.ifCond .ne 9, 3) := by decide +kernel
theorem dL_value_122 : decode cL_value 122 = .ok (.sipush 5801, 3) := by decide +kernel
theorem dL_value_125 : decode cL_value 125 = .ok (.goto 6, 3) := by decide +kernel
theorem dL_value_128 : decode cL_value 128 = .ok (.sipush 600, 3) := by decide +kernel
theorem dL_value_131 : decode cL_value 131 = .ok (.irem, 1) := by decide +kernel
theorem dL_value_132 : decode cL_value 132 = .ok (.iload_n 1, 1) := by decide +kernel
theorem dL_value_133 : decode cL_value 133 = .ok (.iconst 5, 1) := by decide +kernel
theorem dL_value_134 : decode cL_value 134 = .ok (.irem, 1) := by decide +kernel
theorem dL_value_135 : decode cL_value 135 = .ok (.ifCond .ne 9, 3) := by decide +kernel
theorem dL_value_138 : decode cL_value 138 = .ok (.sipush 2900, 3) := by decide +kernel
theorem dL_value_141 : decode cL_value 141 = .ok (.goto 6, 3) := by decide +kernel
theorem dL_value_144 : decode cL_value 144 = .ok (.sipush 300, 3) := by decide +kernel
theorem dL_value_147 : decode cL_value 147 = .ok (.isub, 1) := by decide +kernel
theorem dL_value_148 : decode cL_value 148 = .ok (.ireturn, 1) := by decide +kernel
theorem dL_value_149 : decode cL_value 149 = .ok (.iload_n 1, 1) := by decide +kernel
theorem dL_value_150 : decode cL_value 150 = .ok (.bipush 51, 2) := by decide +kernel
theorem dL_value_152 : decode cL_value 152 = .ok (.irem, 1) := by decide +kernel
theorem dL_value_153 : decode cL_value 153 = .ok (.ireturn, 1) := by decide +kernel
theorem dL_value_154 : decode cL_value 154 = .ok (.iload_n 1, 1) := by decide +kernel
theorem dL_value_155 : decode cL_value 155 = .ok (.iload_n 1, 1) := by decide +kernel
theorem dL_value_156 : decode cL_value 156 = .ok (.iconst 2, 1) := by decide +kernel
theorem dL_value_157 : decode cL_value 157 = .ok (.irem, 1) := by decide +kernel
theorem dL_value_158 : decode cL_value 158 = .ok (.ifCond .ne 9, 3) := by decide +kernel
theorem dL_value_161 : decode cL_value 161 = .ok (.sipush 201, 3) := by decide +kernel
theorem dL_value_164 : decode cL_value 164 = .ok (.goto 5, 3) := by decide +kernel
theorem dL_value_167 : decode cL_value 167 = .ok (.bipush 20, 2) := by decide +kernel
theorem dL_value_169 : decode cL_value 169 = .ok (.irem, 1) := by decide +kernel
theorem dL_value_170 : decode cL_value 170 = .ok (.ireturn, 1) := by decide +kernel
set_option maxRecDepth 20000 in
theorem ggL_acts_L_low : GoodIn wsL_acts wsL_low := goodIn_r _ [8, 9] (by decide +kernel) (by decide +kernel)
set_option maxRecDepth 20000 in
theorem gL_acts_L_low : GoodIn wsL_acts (va_wsS RL 35 yL_low wsL_low) := goodIn_app (goodIn_of _ (by decide +kernel)) ggL_acts_L_low
set_option maxRecDepth 20000 in
theorem ggL_acts_L_value : GoodIn wsL_acts wsL_value := goodIn_r _ [12] (by decide +kernel) (by decide +kernel)
set_option maxRecDepth 20000 in
theorem gL_acts_L_value : GoodIn wsL_acts (va_wsS RL 39 yL_value wsL_value) := goodIn_app (goodIn_of _ (by decide +kernel)) ggL_acts_L_value
set_option maxRecDepth 20000 in
theorem ggL_acts_X8_set : GoodIn wsL_acts wsX8_set := goodIn_r _ [17, 18, 19, 20, 16, 21, 22, 23, 24, 25, 26, 27, 28, 29, 30, 31, 32, 33, 34, 35, 36, 37, 38, 39, 40, 41, 42, 43, 44, 45, 46, 47, 48, 49, 50, 51, 52, 53, 54, 55, 56, 57, 58, 59, 60, 61, 62, 63, 64, 65, 66, 67, 68, 69, 70, 71, 72, 73, 74, 75, 76, 77, 78, 79, 80, 81, 82, 83, 84, 85, 86, 87, 88, 89, 90, 91, 271, 272, 273, 274, 275, 276, 277, 278, 279, 280, 281, 282, 283, 284, 285, 286, 287, 288, 289, 290, 291, 292, 293, 294, 295, 296, 297] (by decide +kernel) (by decide +kernel)
set_option maxRecDepth 20000 in
theorem gL_acts_X8_set : GoodIn wsL_acts (wsV RL 42 RX8 yX8_set wsX8_set) := goodIn_app (goodIn_of _ (by decide +kernel)) ggL_acts_X8_set
set_option maxRecDepth 20000 in
theorem ggL_acts_X8_limits : GoodIn wsL_acts wsX8_limits := goodIn_r _ [95, 18, 19, 20, 16, 21, 22, 23, 24, 25, 26, 27, 28, 29, 30, 31, 32, 33, 34, 35, 36, 37, 38, 39, 40, 41, 42, 43, 44, 45, 46, 47, 48, 49, 50, 51, 52, 53, 54, 55, 56, 57, 58, 59, 60, 61, 62, 63, 96, 97, 98, 99, 68, 69, 70, 71, 72, 73, 74, 75, 76, 77, 78, 79, 80, 81, 82, 83, 84, 85, 86, 87, 88, 89, 90, 91, 271, 272, 273, 274, 275, 276, 277, 278, 279, 280, 281, 282, 283, 284, 285, 286, 287, 288, 289, 290, 291, 292, 293, 294, 295, 296, 297] (by decide +kernel) (by decide +kernel)
set_option maxRecDepth 20000 in
theorem gL_acts_X8_limits : GoodIn wsL_acts (wsV RL 47 RX8 yX8_limits wsX8_limits) := goodIn_app (goodIn_of _ (by decide +kernel)) ggL_acts_X8_limits
set_option maxRecDepth 20000 in
theorem ggL_acts_X8_load : GoodIn wsL_acts wsX8_load := goodIn_r _ [103, 18, 19, 20, 16, 21, 22, 23, 24, 25, 26, 27, 28, 29, 30, 31, 32, 33, 34, 35, 36, 37, 38, 39, 40, 41, 42, 43, 44, 45, 46, 47, 48, 49, 50, 51, 52, 53, 54, 55, 56, 57, 58, 59, 60, 61, 62, 63, 104, 105, 106, 107, 108, 109, 69, 70, 71, 72, 73, 74, 75, 76, 77, 78, 79, 80, 81, 82, 83, 84, 85, 86, 87, 88, 89, 90, 91, 277, 278, 279, 280, 281, 282, 283, 284, 285, 286, 287, 288, 289, 271, 272, 273, 274, 275, 276, 290, 291, 292, 293, 294, 295, 296, 297] (by decide +kernel) (by decide +kernel)
set_option maxRecDepth 20000 in
theorem gL_acts_X8_load : GoodIn wsL_acts (wsV RL 50 RX8 yX8_load wsX8_load) := goodIn_app (goodIn_of _ (by decide +kernel)) ggL_acts_X8_load
set_option maxRecDepth 20000 in
theorem ggL_acts_X8_dropLoad : GoodIn wsL_acts wsX8_dropLoad := goodIn_r _ [113, 18, 19, 20, 16, 21, 22, 23, 24, 25, 26, 27, 28, 29, 30, 31, 32, 33, 34, 35, 36, 37, 38, 39, 40, 41, 42, 43, 44, 45, 46, 47, 48, 49, 50, 51, 52, 53, 54, 55, 56, 57, 58, 59, 60, 61, 62, 63, 114, 115, 116, 117, 108, 118, 71, 72, 73, 74, 75, 76, 77, 78, 79, 80, 81, 82, 83, 84, 85, 86, 87, 88, 89, 90, 91, 277, 278, 279, 280, 281, 282, 283, 284, 285, 286, 287, 288, 289, 271, 272, 273, 274, 275, 276, 290, 291, 292, 293, 294, 295, 296, 297] (by decide +kernel) (by decide +kernel)
set_option maxRecDepth 20000 in
theorem gL_acts_X8_dropLoad : GoodIn wsL_acts (wsV RL 54 RX8 yX8_dropLoad wsX8_dropLoad) := goodIn_app (goodIn_of _ (by decide +kernel)) ggL_acts_X8_dropLoad
set_option maxRecDepth 20000 in
theorem ggL_acts_L_can : GoodIn wsL_acts wsL_can := goodIn_r _ [121] (by decide +kernel) (by decide +kernel)
set_option maxRecDepth 20000 in
theorem gL_acts_L_can : GoodIn wsL_acts (va_wsS RL 59 yL_can wsL_can) := goodIn_app (goodIn_of _ (by decide +kernel)) ggL_acts_L_can
set_option maxRecDepth 20000 in
theorem ggL_acts_X8_move : GoodIn wsL_acts wsX8_move := goodIn_r _ [125, 126, 18, 19, 20, 16, 21, 22, 23, 24, 25, 26, 27, 28, 29, 30, 31, 32, 33, 34, 35, 36, 37, 38, 39, 40, 41, 42, 43, 44, 45, 46, 47, 48, 49, 50, 51, 52, 53, 54, 55, 56, 57, 58, 59, 60, 61, 62, 63, 127, 128, 129, 130, 131, 132, 133, 134, 135, 136, 137, 138, 139, 140, 141, 142, 69, 70, 143, 144, 145, 146, 147, 148, 149, 150, 151, 152, 153, 154, 155, 156, 157, 158, 159, 160, 161, 162, 163, 164, 165, 166, 167, 168, 169, 170, 171, 172, 173, 174, 175, 176, 177, 178, 179, 180, 181, 182, 183, 184, 185, 186, 187, 188, 189, 190, 191, 192, 193, 194, 195, 196, 197, 198, 199, 200, 201, 202, 203, 204, 205, 71, 72, 73, 74, 75, 76, 77, 78, 79, 80, 81, 82, 83, 84, 85, 86, 87, 88, 89, 90, 91, 271, 272, 273, 274, 275, 276, 277, 278, 279, 280, 281, 282, 283, 284, 285, 286, 287, 288, 289, 290, 291, 292, 293, 294, 295, 298, 299, 300, 301, 302, 303, 296, 297] (by decide +kernel) (by decide +kernel)
set_option maxRecDepth 20000 in
theorem gL_acts_X8_move : GoodIn wsL_acts (wsV RL 63 RX8 yX8_move wsX8_move) := goodIn_app (goodIn_of _ (by decide +kernel)) ggL_acts_X8_move
set_option maxRecDepth 20000 in
theorem ggL_acts_X8_moveBy : GoodIn wsL_acts wsX8_moveBy := goodIn_r _ [209, 126, 18, 19, 20, 16, 21, 22, 23, 24, 25, 26, 27, 28, 29, 30, 31, 32, 33, 34, 35, 36, 37, 38, 39, 40, 41, 42, 43, 44, 45, 46, 47, 48, 49, 50, 51, 52, 53, 54, 55, 56, 57, 58, 59, 60, 61, 62, 63, 210, 211, 212, 130, 213, 141, 142, 69, 70, 214, 128, 129, 131, 132, 133, 134, 135, 136, 137, 138, 139, 140, 143, 144, 145, 146, 147, 148, 149, 150, 151, 152, 153, 154, 155, 156, 157, 158, 159, 160, 161, 162, 163, 164, 165, 166, 167, 168, 169, 170, 171, 172, 173, 174, 175, 176, 177, 178, 179, 180, 181, 182, 183, 184, 185, 186, 187, 188, 189, 190, 191, 192, 193, 194, 195, 196, 197, 198, 199, 200, 201, 202, 203, 204, 205, 71, 72, 73, 74, 75, 76, 77, 78, 79, 80, 81, 82, 83, 84, 85, 86, 87, 88, 89, 90, 91, 271, 272, 273, 274, 275, 276, 277, 278, 279, 280, 281, 282, 283, 284, 285, 286, 287, 288, 289, 290, 291, 292, 293, 294, 295, 298, 299, 300, 301, 302, 303, 296, 297] (by decide +kernel) (by decide +kernel)
set_option maxRecDepth 20000 in
theorem gL_acts_X8_moveBy : GoodIn wsL_acts (wsV RL 66 RX8 yX8_moveBy wsX8_moveBy) := goodIn_app (goodIn_of _ (by decide +kernel)) ggL_acts_X8_moveBy
set_option maxRecDepth 20000 in
theorem ggL_acts_L_go : GoodIn wsL_acts wsL_go := goodIn_r _ [217, 4, 218, 219, 220, 7, 221, 222, 223, 224, 225, 226, 227, 228, 229, 230, 231] (by decide +kernel) (by decide +kernel)
set_option maxRecDepth 20000 in
theorem gL_acts_L_go : GoodIn wsL_acts (va_wsS RL 69 yL_go wsL_go) := goodIn_app (goodIn_of _ (by decide +kernel)) ggL_acts_L_go
set_option maxRecDepth 20000 in
theorem ggL_acts_L_copy : GoodIn wsL_acts wsL_copy := goodIn_r _ [234] (by decide +kernel) (by decide +kernel)
set_option maxRecDepth 20000 in
theorem gL_acts_L_copy : GoodIn wsL_acts (va_wsS RL 73 yL_copy wsL_copy) := goodIn_app (goodIn_of _ (by decide +kernel)) ggL_acts_L_copy
set_option maxRecDepth 20000 in
theorem ggL_acts_L_home : GoodIn wsL_acts wsL_home := goodIn_r _ [237, 4, 238, 219, 220, 7, 221, 222, 223, 224, 225, 226, 227, 228, 229, 230, 231, 239, 240, 241] (by decide +kernel) (by decide +kernel)
set_option maxRecDepth 20000 in
theorem gL_acts_L_home : GoodIn wsL_acts (va_wsS RL 77 yL_home wsL_home) := goodIn_app (goodIn_of _ (by decide +kernel)) ggL_acts_L_home
set_option maxRecDepth 20000 in
theorem ggL_acts_X8_home : GoodIn wsL_acts wsX8_home := goodIn_r _ [245, 126, 18, 19, 20, 16, 21, 22, 23, 24, 25, 26, 27, 28, 29, 30, 31, 32, 33, 34, 35, 36, 37, 38, 39, 40, 41, 42, 43, 44, 45, 46, 47, 48, 49, 50, 51, 52, 53, 54, 55, 56, 57, 58, 59, 60, 61, 62, 63, 246, 247, 248, 130, 249, 132, 142, 143, 144, 145, 146, 147, 148, 149, 135, 150, 151, 152, 153, 154, 155, 156, 157, 158, 250, 251, 252, 253, 254, 166, 167, 168, 169, 69, 70, 170, 171, 172, 173, 174, 175, 176, 177, 178, 179, 180, 181, 182, 183, 184, 185, 186, 187, 188, 255, 256, 257, 258, 259, 260, 261, 262, 71, 72, 73, 74, 75, 76, 77, 78, 79, 80, 81, 82, 83, 84, 85, 86, 87, 88, 89, 90, 91, 271, 272, 273, 274, 275, 276, 277, 278, 279, 280, 281, 282, 283, 284, 285, 286, 287, 288, 289, 290, 291, 292, 293, 294, 295, 298, 299, 300, 301, 302, 303, 296, 297] (by decide +kernel) (by decide +kernel)
set_option maxRecDepth 20000 in
theorem gL_acts_X8_home : GoodIn wsL_acts (wsV RL 81 RX8 yX8_home wsX8_home) := goodIn_app (goodIn_of _ (by decide +kernel)) ggL_acts_X8_home
set_option maxRecDepth 20000 in
theorem ggL_acts_X8_forget : GoodIn wsL_acts wsX8_forget := goodIn_r _ [266, 18, 19, 20, 16, 21, 22, 23, 24, 25, 26, 27, 28, 29, 30, 31, 32, 33, 34, 35, 36, 37, 38, 39, 40, 41, 42, 43, 44, 45, 46, 47, 48, 49, 50, 51, 52, 53, 54, 55, 56, 57, 58, 59, 60, 61, 62, 63, 267, 268, 269, 270, 71, 72, 73, 74, 75, 76, 77, 78, 79, 80, 81, 82, 83, 84, 85, 86, 87, 88, 89, 90, 91, 277, 278, 279, 280, 281, 282, 283, 284, 285, 286, 287, 288, 289, 271, 272, 273, 274, 275, 276, 290, 291, 292, 293, 294, 295, 296, 297] (by decide +kernel) (by decide +kernel)
set_option maxRecDepth 20000 in
theorem gL_acts_X8_forget : GoodIn wsL_acts (wsV RL 84 RX8 yX8_forget wsX8_forget) := goodIn_app (goodIn_of _ (by decide +kernel)) ggL_acts_X8_forget
theorem dL_acts_0 : decode cL_acts 0 = .ok (.iload 4, 2) := by decide +kernel
theorem dL_acts_2 : decode cL_acts 2 = .ok (.iconst 5, 1) := by decide +kernel
theorem dL_acts_3 : decode cL_acts 3 = .ok (.ishr, 1) := by decide +kernel
theorem dL_acts_4 : decode cL_acts 4 = .ok (.ldc 34, 2) := by decide +kernel
theorem dL_acts_6 : decode cL_acts 6 = .ok (.invokestatic 35, 3) := by decide +kernel
theorem dL_acts_9 : decode cL_acts 9 = .ok (.istore 5, 2) := by decide +kernel
theorem dL_acts_11 : decode cL_acts 11 = .ok (.iload 4, 2) := by decide +kernel
theorem dL_acts_13 : decode cL_acts 13 = .ok (.bipush 20, 2) := by decide +kernel
theorem dL_acts_15 : decode cL_acts 15 = .ok (.invokestatic 35, 3) := by decide +kernel
theorem dL_acts_18 : decode cL_acts 18 = .ok (.istore 6, 2) := by decide +kernel
theorem dL_acts_20 : decode cL_acts 20 = .ok (.iload 6, 2) := by decide +kernel
theorem dL_acts_22 : decode cL_acts 22 = .ok (.iconst 4, 1) := by decide +kernel
theorem dL_acts_23 : decode cL_acts 23 = .ok (.if_icmp .ge 51, 3) := by decide +kernel
theorem dL_acts_26 : decode cL_acts 26 = .ok (.iload 5, 2) := by decide +kernel
theorem dL_acts_28 : decode cL_acts 28 = .ok (.bipush 8, 2) := by decide +kernel
theorem dL_acts_30 : decode cL_acts 30 = .ok (.irem, 1) := by decide +kernel
theorem dL_acts_31 : decode cL_acts 31 = .ok (.istore 7, 2) := by decide +kernel
theorem dL_acts_33 : decode cL_acts 33 = .ok (.aload_n 1, 1) := by decide +kernel
theorem dL_acts_34 : decode cL_acts 34 = .ok (.iload 7, 2) := by decide +kernel
theorem dL_acts_36 : decode cL_acts 36 = .ok (.iaload, 1) := by decide +kernel
theorem dL_acts_37 : decode cL_acts 37 = .ok (.istore 8, 2) := by decide +kernel
theorem dL_acts_39 : decode cL_acts 39 = .ok (.aload_n 1, 1) := by decide +kernel
theorem dL_acts_40 : decode cL_acts 40 = .ok (.iload 7, 2) := by decide +kernel
theorem dL_acts_42 : decode cL_acts 42 = .ok (.iload 7, 2) := by decide +kernel
theorem dL_acts_44 : decode cL_acts 44 = .ok (.iload 5, 2) := by decide +kernel
theorem dL_acts_46 : decode cL_acts 46 = .ok (.bipush 8, 2) := by decide +kernel
theorem dL_acts_48 : decode cL_acts 48 = .ok (.idiv, 1) := by decide +kernel
theorem dL_acts_49 : decode cL_acts 49 = .ok (.invokestatic 39, 3) := by decide +kernel
theorem dL_acts_52 : decode cL_acts 52 = .ok (.iastore, 1) := by decide +kernel
theorem dL_acts_53 : decode cL_acts 53 = .ok (.aload_n 0, 1) := by decide +kernel
theorem dL_acts_54 : decode cL_acts 54 = .ok (.iload 7, 2) := by decide +kernel
theorem dL_acts_56 : decode cL_acts 56 = .ok (.aload_n 1, 1) := by decide +kernel
theorem dL_acts_57 : decode cL_acts 57 = .ok (.iload 7, 2) := by decide +kernel
theorem dL_acts_59 : decode cL_acts 59 = .ok (.iaload, 1) := by decide +kernel
theorem dL_acts_60 : decode cL_acts 60 = .ok (.invokevirtual 42, 3) := by decide +kernel
theorem dL_acts_63 : decode cL_acts 63 = .ok (.iload 8, 2) := by decide +kernel
theorem dL_acts_65 : decode cL_acts 65 = .ok (.if_icmp .ne 7, 3) := by decide +kernel
theorem dL_acts_68 : decode cL_acts 68 = .ok (.iconst 1, 1) := by decide +kernel
theorem dL_acts_69 : decode cL_acts 69 = .ok (.goto 4, 3) := by decide +kernel
theorem dL_acts_72 : decode cL_acts 72 = .ok (.iconst 0, 1) := by decide +kernel
theorem dL_acts_73 : decode cL_acts 73 = .ok (.ireturn, 1) := by decide +kernel
theorem dL_acts_74 : decode cL_acts 74 = .ok (.iload 6, 2) := by decide +kernel
theorem dL_acts_76 : decode cL_acts 76 = .ok (.iconst 4, 1) := by decide +kernel
theorem dL_acts_77 : decode cL_acts 77 = .ok (.if_icmp .ne 85, 3) := by decide +kernel
theorem dL_acts_80 : decode cL_acts 80 = .ok (.iload 5, 2) := by decide +kernel
theorem dL_acts_82 : decode cL_acts 82 = .ok (.sipush 4001, 3) := by decide +kernel
theorem dL_acts_85 : decode cL_acts 85 = .ok (.irem, 1) := by decide +kernel
theorem dL_acts_86 : decode cL_acts 86 = .ok (.sipush 2000, 3) := by decide +kernel
theorem dL_acts_89 : decode cL_acts 89 = .ok (.isub, 1) := by decide +kernel
theorem dL_acts_90 : decode cL_acts 90 = .ok (.istore 7, 2) := by decide +kernel
theorem dL_acts_92 : decode cL_acts 92 = .ok (.iload 7, 2) := by decide +kernel
theorem dL_acts_94 : decode cL_acts 94 = .ok (.iload 5, 2) := by decide +kernel
theorem dL_acts_96 : decode cL_acts 96 = .ok (.sipush 4001, 3) := by decide +kernel
theorem dL_acts_99 : decode cL_acts 99 = .ok (.idiv, 1) := by decide +kernel
theorem dL_acts_100 : decode cL_acts 100 = .ok (.sipush 2001, 3) := by decide +kernel
theorem dL_acts_103 : decode cL_acts 103 = .ok (.iload 7, 2) := by decide +kernel
theorem dL_acts_105 : decode cL_acts 105 = .ok (.isub, 1) := by decide +kernel
theorem dL_acts_106 : decode cL_acts 106 = .ok (.irem, 1) := by decide +kernel
theorem dL_acts_107 : decode cL_acts 107 = .ok (.iadd, 1) := by decide +kernel
theorem dL_acts_108 : decode cL_acts 108 = .ok (.istore 8, 2) := by decide +kernel
theorem dL_acts_110 : decode cL_acts 110 = .ok (.aload_n 1, 1) := by decide +kernel
theorem dL_acts_111 : decode cL_acts 111 = .ok (.bipush 8, 2) := by decide +kernel
theorem dL_acts_113 : decode cL_acts 113 = .ok (.iload 7, 2) := by decide +kernel
theorem dL_acts_115 : decode cL_acts 115 = .ok (.iastore, 1) := by decide +kernel
theorem dL_acts_116 : decode cL_acts 116 = .ok (.aload_n 1, 1) := by decide +kernel
theorem dL_acts_117 : decode cL_acts 117 = .ok (.bipush 9, 2) := by decide +kernel
theorem dL_acts_119 : decode cL_acts 119 = .ok (.iload 8, 2) := by decide +kernel
theorem dL_acts_121 : decode cL_acts 121 = .ok (.iastore, 1) := by decide +kernel
theorem dL_acts_122 : decode cL_acts 122 = .ok (.aload_n 0, 1) := by decide +kernel
theorem dL_acts_123 : decode cL_acts 123 = .ok (.iload 7, 2) := by decide +kernel
theorem dL_acts_125 : decode cL_acts 125 = .ok (.iload 8, 2) := by decide +kernel
theorem dL_acts_127 : decode cL_acts 127 = .ok (.invokevirtual 47, 3) := by decide +kernel
theorem dL_acts_130 : decode cL_acts 130 = .ok (.aload_n 1, 1) := by decide +kernel
theorem dL_acts_131 : decode cL_acts 131 = .ok (.bipush 10, 2) := by decide +kernel
theorem dL_acts_133 : decode cL_acts 133 = .ok (.iaload, 1) := by decide +kernel
theorem dL_acts_134 : decode cL_acts 134 = .ok (.iload 7, 2) := by decide +kernel
theorem dL_acts_136 : decode cL_acts 136 = .ok (.if_icmp .lt 16, 3) := by decide +kernel
theorem dL_acts_139 : decode cL_acts 139 = .ok (.aload_n 1, 1) := by decide +kernel
theorem dL_acts_140 : decode cL_acts 140 = .ok (.bipush 10, 2) := by decide +kernel
theorem dL_acts_142 : decode cL_acts 142 = .ok (.iaload, 1) := by decide +kernel
theorem dL_acts_143 : decode cL_acts 143 = .ok (.iload 8, 2) := by decide +kernel
theorem dL_acts_145 : decode cL_acts 145 = .ok (.if_icmp .gt 7, 3) := by decide +kernel
theorem dL_acts_148 : decode cL_acts 148 = .ok (.iconst 1, 1) := by decide +kernel
theorem dL_acts_149 : decode cL_acts 149 = .ok (.goto 4, 3) := by decide +kernel
theorem dL_acts_152 : decode cL_acts 152 = .ok (.iconst 0, 1) := by decide +kernel
theorem dL_acts_153 : decode cL_acts 153 = .ok (.if_icmp .ne 7, 3) := by decide +kernel
theorem dL_acts_156 : decode cL_acts 156 = .ok (.iconst 1, 1) := by decide +kernel
theorem dL_acts_157 : decode cL_acts 157 = .ok (.goto 4, 3) := by decide +kernel
theorem dL_acts_160 : decode cL_acts 160 = .ok (.iconst 0, 1) := by decide +kernel
theorem dL_acts_161 : decode cL_acts 161 = .ok (.ireturn, 1) := by decide +kernel
theorem dL_acts_162 : decode cL_acts 162 = .ok (.iload 6, 2) := by decide +kernel
theorem dL_acts_164 : decode cL_acts 164 = .ok (.bipush 7, 2) := by decide +kernel
theorem dL_acts_166 : decode cL_acts 166 = .ok (.if_icmp .ge 160, 3) := by decide +kernel
theorem dL_acts_169 : decode cL_acts 169 = .ok (.iload 5, 2) := by decide +kernel
theorem dL_acts_171 : decode cL_acts 171 = .ok (.sipush 1200, 3) := by decide +kernel
theorem dL_acts_174 : decode cL_acts 174 = .ok (.irem, 1) := by decide +kernel
theorem dL_acts_175 : decode cL_acts 175 = .ok (.sipush 600, 3) := by decide +kernel
theorem dL_acts_178 : decode cL_acts 178 = .ok (.isub, 1) := by decide +kernel
theorem dL_acts_179 : decode cL_acts 179 = .ok (.istore 7, 2) := by decide +kernel
theorem dL_acts_181 : decode cL_acts 181 = .ok (.iload 7, 2) := by decide +kernel
theorem dL_acts_183 : decode cL_acts 183 = .ok (.iload 5, 2) := by decide +kernel
theorem dL_acts_185 : decode cL_acts 185 = .ok (.sipush 1200, 3) := by decide +kernel
theorem dL_acts_188 : decode cL_acts 188 = .ok (.idiv, 1) := by decide +kernel
theorem dL_acts_189 : decode cL_acts 189 = .ok (.iload 5, 2) := by decide +kernel
theorem dL_acts_191 : decode cL_acts 191 = .ok (.iconst 3, 1) := by decide +kernel
theorem dL_acts_192 : decode cL_acts 192 = .ok (.irem, 1) := by decide +kernel
theorem dL_acts_193 : decode cL_acts 193 = .ok (.ifCond .ne 9, 3) := by decide +kernel
theorem dL_acts_196 : decode cL_acts 196 = .ok (.sipush 2400, 3) := by decide +kernel
theorem dL_acts_199 : decode cL_acts 199 = .ok (.goto 5, 3) := by decide +kernel
theorem dL_acts_202 : decode cL_acts 202 = .ok (.bipush 40, 2) := by decide +kernel
theorem dL_acts_204 : decode cL_acts 204 = .ok (.irem, 1) := by decide +kernel
theorem dL_acts_205 : decode cL_acts 205 = .ok (.iadd, 1) := by decide +kernel
theorem dL_acts_206 : decode cL_acts 206 = .ok (.istore 8, 2) := by decide +kernel
theorem dL_acts_208 : decode cL_acts 208 = .ok (.iconst 1, 1) := by decide +kernel
theorem dL_acts_209 : decode cL_acts 209 = .ok (.iload 5, 2) := by decide +kernel
theorem dL_acts_211 : decode cL_acts 211 = .ok (.bipush 7, 2) := by decide +kernel
theorem dL_acts_213 : decode cL_acts 213 = .ok (.idiv, 1) := by decide +kernel
theorem dL_acts_214 : decode cL_acts 214 = .ok (.iload 5, 2) := by decide +kernel
theorem dL_acts_216 : decode cL_acts 216 = .ok (.iconst 4, 1) := by decide +kernel
theorem dL_acts_217 : decode cL_acts 217 = .ok (.irem, 1) := by decide +kernel
theorem dL_acts_218 : decode cL_acts 218 = .ok (.ifCond .ne 9, 3) := by decide +kernel
theorem dL_acts_221 : decode cL_acts 221 = .ok (.sipush 300, 3) := by decide +kernel
theorem dL_acts_224 : decode cL_acts 224 = .ok (.goto 5, 3) := by decide +kernel
theorem dL_acts_227 : decode cL_acts 227 = .ok (.bipush 90, 2) := by decide +kernel
theorem dL_acts_229 : decode cL_acts 229 = .ok (.irem, 1) := by decide +kernel
theorem dL_acts_230 : decode cL_acts 230 = .ok (.iadd, 1) := by decide +kernel
theorem dL_acts_231 : decode cL_acts 231 = .ok (.istore 9, 2) := by decide +kernel
theorem dL_acts_233 : decode cL_acts 233 = .ok (.aload_n 1, 1) := by decide +kernel
theorem dL_acts_234 : decode cL_acts 234 = .ok (.bipush 18, 2) := by decide +kernel
theorem dL_acts_236 : decode cL_acts 236 = .ok (.iaload, 1) := by decide +kernel
theorem dL_acts_237 : decode cL_acts 237 = .ok (.bipush 6, 2) := by decide +kernel
theorem dL_acts_239 : decode cL_acts 239 = .ok (.if_icmp .ne 24, 3) := by decide +kernel
theorem dL_acts_242 : decode cL_acts 242 = .ok (.aload_n 0, 1) := by decide +kernel
theorem dL_acts_243 : decode cL_acts 243 = .ok (.iload 7, 2) := by decide +kernel
theorem dL_acts_245 : decode cL_acts 245 = .ok (.iload 8, 2) := by decide +kernel
theorem dL_acts_247 : decode cL_acts 247 = .ok (.iload 9, 2) := by decide +kernel
theorem dL_acts_249 : decode cL_acts 249 = .ok (.invokevirtual 50, 3) := by decide +kernel
theorem dL_acts_252 : decode cL_acts 252 = .ok (.ldc 53, 2) := by decide +kernel
theorem dL_acts_254 : decode cL_acts 254 = .ok (.if_icmp .ne 7, 3) := by decide +kernel
theorem dL_acts_257 : decode cL_acts 257 = .ok (.iconst 1, 1) := by decide +kernel
theorem dL_acts_258 : decode cL_acts 258 = .ok (.goto 4, 3) := by decide +kernel
theorem dL_acts_261 : decode cL_acts 261 = .ok (.iconst 0, 1) := by decide +kernel
theorem dL_acts_262 : decode cL_acts 262 = .ok (.ireturn, 1) := by decide +kernel
theorem dL_acts_263 : decode cL_acts 263 = .ok (.iconst 3, 1) := by decide +kernel
theorem dL_acts_264 : decode cL_acts 264 = .ok (.aload_n 1, 1) := by decide +kernel
theorem dL_acts_265 : decode cL_acts 265 = .ok (.bipush 18, 2) := by decide +kernel
theorem dL_acts_267 : decode cL_acts 267 = .ok (.iaload, 1) := by decide +kernel
theorem dL_acts_268 : decode cL_acts 268 = .ok (.imul, 1) := by decide +kernel
theorem dL_acts_269 : decode cL_acts 269 = .ok (.istore 10, 2) := by decide +kernel
theorem dL_acts_271 : decode cL_acts 271 = .ok (.aload_n 2, 1) := by decide +kernel
theorem dL_acts_272 : decode cL_acts 272 = .ok (.iload 10, 2) := by decide +kernel
theorem dL_acts_274 : decode cL_acts 274 = .ok (.iload 7, 2) := by decide +kernel
theorem dL_acts_276 : decode cL_acts 276 = .ok (.iastore, 1) := by decide +kernel
theorem dL_acts_277 : decode cL_acts 277 = .ok (.aload_n 2, 1) := by decide +kernel
theorem dL_acts_278 : decode cL_acts 278 = .ok (.iload 10, 2) := by decide +kernel
theorem dL_acts_280 : decode cL_acts 280 = .ok (.iconst 1, 1) := by decide +kernel
theorem dL_acts_281 : decode cL_acts 281 = .ok (.iadd, 1) := by decide +kernel
theorem dL_acts_282 : decode cL_acts 282 = .ok (.iload 8, 2) := by decide +kernel
theorem dL_acts_284 : decode cL_acts 284 = .ok (.iastore, 1) := by decide +kernel
theorem dL_acts_285 : decode cL_acts 285 = .ok (.aload_n 2, 1) := by decide +kernel
theorem dL_acts_286 : decode cL_acts 286 = .ok (.iload 10, 2) := by decide +kernel
theorem dL_acts_288 : decode cL_acts 288 = .ok (.iconst 2, 1) := by decide +kernel
theorem dL_acts_289 : decode cL_acts 289 = .ok (.iadd, 1) := by decide +kernel
theorem dL_acts_290 : decode cL_acts 290 = .ok (.iload 9, 2) := by decide +kernel
theorem dL_acts_292 : decode cL_acts 292 = .ok (.iastore, 1) := by decide +kernel
theorem dL_acts_293 : decode cL_acts 293 = .ok (.aload_n 1, 1) := by decide +kernel
theorem dL_acts_294 : decode cL_acts 294 = .ok (.bipush 18, 2) := by decide +kernel
theorem dL_acts_296 : decode cL_acts 296 = .ok (.dup2, 1) := by decide +kernel
theorem dL_acts_297 : decode cL_acts 297 = .ok (.iaload, 1) := by decide +kernel
theorem dL_acts_298 : decode cL_acts 298 = .ok (.iconst 1, 1) := by decide +kernel
theorem dL_acts_299 : decode cL_acts 299 = .ok (.iadd, 1) := by decide +kernel
theorem dL_acts_300 : decode cL_acts 300 = .ok (.iastore, 1) := by decide +kernel
theorem dL_acts_301 : decode cL_acts 301 = .ok (.aload_n 0, 1) := by decide +kernel
theorem dL_acts_302 : decode cL_acts 302 = .ok (.iload 7, 2) := by decide +kernel
theorem dL_acts_304 : decode cL_acts 304 = .ok (.iload 8, 2) := by decide +kernel
theorem dL_acts_306 : decode cL_acts 306 = .ok (.iload 9, 2) := by decide +kernel
theorem dL_acts_308 : decode cL_acts 308 = .ok (.invokevirtual 50, 3) := by decide +kernel
theorem dL_acts_311 : decode cL_acts 311 = .ok (.aload_n 1, 1) := by decide +kernel
theorem dL_acts_312 : decode cL_acts 312 = .ok (.bipush 18, 2) := by decide +kernel
theorem dL_acts_314 : decode cL_acts 314 = .ok (.iaload, 1) := by decide +kernel
theorem dL_acts_315 : decode cL_acts 315 = .ok (.iconst 1, 1) := by decide +kernel
theorem dL_acts_316 : decode cL_acts 316 = .ok (.isub, 1) := by decide +kernel
theorem dL_acts_317 : decode cL_acts 317 = .ok (.if_icmp .ne 7, 3) := by decide +kernel
theorem dL_acts_320 : decode cL_acts 320 = .ok (.iconst 1, 1) := by decide +kernel
theorem dL_acts_321 : decode cL_acts 321 = .ok (.goto 4, 3) := by decide +kernel
theorem dL_acts_324 : decode cL_acts 324 = .ok (.iconst 0, 1) := by decide +kernel
theorem dL_acts_325 : decode cL_acts 325 = .ok (.ireturn, 1) := by decide +kernel
theorem dL_acts_326 : decode cL_acts 326 = .ok (.iload 6, 2) := by decide +kernel
theorem dL_acts_328 : decode cL_acts 328 = .ok (.bipush 9, 2) := by decide +kernel
theorem dL_acts_330 : decode cL_acts 330 = .ok (.if_icmp .ge 104, 3) := by decide +kernel
theorem dL_acts_333 : decode cL_acts 333 = .ok (.iload 5, 2) := by decide +kernel
theorem dL_acts_335 : decode cL_acts 335 = .ok (.bipush 7, 2) := by decide +kernel
theorem dL_acts_337 : decode cL_acts 337 = .ok (.irem, 1) := by decide +kernel
theorem dL_acts_338 : decode cL_acts 338 = .ok (.istore 7, 2) := by decide +kernel
theorem dL_acts_340 : decode cL_acts 340 = .ok (.iload 7, 2) := by decide +kernel
theorem dL_acts_342 : decode cL_acts 342 = .ok (.aload_n 1, 1) := by decide +kernel
theorem dL_acts_343 : decode cL_acts 343 = .ok (.bipush 18, 2) := by decide +kernel
theorem dL_acts_345 : decode cL_acts 345 = .ok (.iaload, 1) := by decide +kernel
theorem dL_acts_346 : decode cL_acts 346 = .ok (.if_icmp .lt 20, 3) := by decide +kernel
theorem dL_acts_349 : decode cL_acts 349 = .ok (.aload_n 0, 1) := by decide +kernel
theorem dL_acts_350 : decode cL_acts 350 = .ok (.iload 7, 2) := by decide +kernel
theorem dL_acts_352 : decode cL_acts 352 = .ok (.invokevirtual 54, 3) := by decide +kernel
theorem dL_acts_355 : decode cL_acts 355 = .ok (.ldc 58, 2) := by decide +kernel
theorem dL_acts_357 : decode cL_acts 357 = .ok (.if_icmp .ne 7, 3) := by decide +kernel
theorem dL_acts_360 : decode cL_acts 360 = .ok (.iconst 1, 1) := by decide +kernel
theorem dL_acts_361 : decode cL_acts 361 = .ok (.goto 4, 3) := by decide +kernel
theorem dL_acts_364 : decode cL_acts 364 = .ok (.iconst 0, 1) := by decide +kernel
theorem dL_acts_365 : decode cL_acts 365 = .ok (.ireturn, 1) := by decide +kernel
theorem dL_acts_366 : decode cL_acts 366 = .ok (.aload_n 2, 1) := by decide +kernel
theorem dL_acts_367 : decode cL_acts 367 = .ok (.iconst 3, 1) := by decide +kernel
theorem dL_acts_368 : decode cL_acts 368 = .ok (.iload 7, 2) := by decide +kernel
theorem dL_acts_370 : decode cL_acts 370 = .ok (.imul, 1) := by decide +kernel
theorem dL_acts_371 : decode cL_acts 371 = .ok (.iconst 2, 1) := by decide +kernel
theorem dL_acts_372 : decode cL_acts 372 = .ok (.iadd, 1) := by decide +kernel
theorem dL_acts_373 : decode cL_acts 373 = .ok (.iaload, 1) := by decide +kernel
theorem dL_acts_374 : decode cL_acts 374 = .ok (.istore 8, 2) := by decide +kernel
theorem dL_acts_376 : decode cL_acts 376 = .ok (.aload_n 1, 1) := by decide +kernel
theorem dL_acts_377 : decode cL_acts 377 = .ok (.bipush 18, 2) := by decide +kernel
theorem dL_acts_379 : decode cL_acts 379 = .ok (.dup2, 1) := by decide +kernel
theorem dL_acts_380 : decode cL_acts 380 = .ok (.iaload, 1) := by decide +kernel
theorem dL_acts_381 : decode cL_acts 381 = .ok (.iconst 1, 1) := by decide +kernel
theorem dL_acts_382 : decode cL_acts 382 = .ok (.isub, 1) := by decide +kernel
theorem dL_acts_383 : decode cL_acts 383 = .ok (.iastore, 1) := by decide +kernel
theorem dL_acts_384 : decode cL_acts 384 = .ok (.iconst 3, 1) := by decide +kernel
theorem dL_acts_385 : decode cL_acts 385 = .ok (.iload 7, 2) := by decide +kernel
theorem dL_acts_387 : decode cL_acts 387 = .ok (.imul, 1) := by decide +kernel
theorem dL_acts_388 : decode cL_acts 388 = .ok (.istore 9, 2) := by decide +kernel
theorem dL_acts_390 : decode cL_acts 390 = .ok (.iload 9, 2) := by decide +kernel
theorem dL_acts_392 : decode cL_acts 392 = .ok (.iconst 3, 1) := by decide +kernel
theorem dL_acts_393 : decode cL_acts 393 = .ok (.aload_n 1, 1) := by decide +kernel
theorem dL_acts_394 : decode cL_acts 394 = .ok (.bipush 18, 2) := by decide +kernel
theorem dL_acts_396 : decode cL_acts 396 = .ok (.iaload, 1) := by decide +kernel
theorem dL_acts_397 : decode cL_acts 397 = .ok (.imul, 1) := by decide +kernel
theorem dL_acts_398 : decode cL_acts 398 = .ok (.if_icmp .ge 19, 3) := by decide +kernel
theorem dL_acts_401 : decode cL_acts 401 = .ok (.aload_n 2, 1) := by decide +kernel
theorem dL_acts_402 : decode cL_acts 402 = .ok (.iload 9, 2) := by decide +kernel
theorem dL_acts_404 : decode cL_acts 404 = .ok (.aload_n 2, 1) := by decide +kernel
theorem dL_acts_405 : decode cL_acts 405 = .ok (.iload 9, 2) := by decide +kernel
theorem dL_acts_407 : decode cL_acts 407 = .ok (.iconst 3, 1) := by decide +kernel
theorem dL_acts_408 : decode cL_acts 408 = .ok (.iadd, 1) := by decide +kernel
theorem dL_acts_409 : decode cL_acts 409 = .ok (.iaload, 1) := by decide +kernel
theorem dL_acts_410 : decode cL_acts 410 = .ok (.iastore, 1) := by decide +kernel
theorem dL_acts_411 : decode cL_acts 411 = .ok (.iinc 9 1, 3) := by decide +kernel
theorem dL_acts_414 : decode cL_acts 414 = .ok (.goto (-24), 3) := by decide +kernel
theorem dL_acts_417 : decode cL_acts 417 = .ok (.aload_n 0, 1) := by decide +kernel
theorem dL_acts_418 : decode cL_acts 418 = .ok (.iload 7, 2) := by decide +kernel
theorem dL_acts_420 : decode cL_acts 420 = .ok (.invokevirtual 54, 3) := by decide +kernel
theorem dL_acts_423 : decode cL_acts 423 = .ok (.iload 8, 2) := by decide +kernel
theorem dL_acts_425 : decode cL_acts 425 = .ok (.if_icmp .ne 7, 3) := by decide +kernel
theorem dL_acts_428 : decode cL_acts 428 = .ok (.iconst 1, 1) := by decide +kernel
theorem dL_acts_429 : decode cL_acts 429 = .ok (.goto 4, 3) := by decide +kernel
theorem dL_acts_432 : decode cL_acts 432 = .ok (.iconst 0, 1) := by decide +kernel
theorem dL_acts_433 : decode cL_acts 433 = .ok (.ireturn, 1) := by decide +kernel
theorem dL_acts_434 : decode cL_acts 434 = .ok (.iload 6, 2) := by decide +kernel
theorem dL_acts_436 : decode cL_acts 436 = .ok (.bipush 16, 2) := by decide +kernel
theorem dL_acts_438 : decode cL_acts 438 = .ok (.if_icmp .ge 243, 3) := by decide +kernel
theorem dL_acts_441 : decode cL_acts 441 = .ok (.iload 5, 2) := by decide +kernel
theorem dL_acts_443 : decode cL_acts 443 = .ok (.iconst 5, 1) := by decide +kernel
theorem dL_acts_444 : decode cL_acts 444 = .ok (.irem, 1) := by decide +kernel
theorem dL_acts_445 : decode cL_acts 445 = .ok (.ifCond .ne 18, 3) := by decide +kernel
theorem dL_acts_448 : decode cL_acts 448 = .ok (.iload 5, 2) := by decide +kernel
theorem dL_acts_450 : decode cL_acts 450 = .ok (.iconst 5, 1) := by decide +kernel
theorem dL_acts_451 : decode cL_acts 451 = .ok (.idiv, 1) := by decide +kernel
theorem dL_acts_452 : decode cL_acts 452 = .ok (.sipush 8001, 3) := by decide +kernel
theorem dL_acts_455 : decode cL_acts 455 = .ok (.irem, 1) := by decide +kernel
theorem dL_acts_456 : decode cL_acts 456 = .ok (.sipush 4000, 3) := by decide +kernel
theorem dL_acts_459 : decode cL_acts 459 = .ok (.isub, 1) := by decide +kernel
theorem dL_acts_460 : decode cL_acts 460 = .ok (.goto 15, 3) := by decide +kernel
theorem dL_acts_463 : decode cL_acts 463 = .ok (.iload 5, 2) := by decide +kernel
theorem dL_acts_465 : decode cL_acts 465 = .ok (.iconst 5, 1) := by decide +kernel
theorem dL_acts_466 : decode cL_acts 466 = .ok (.idiv, 1) := by decide +kernel
theorem dL_acts_467 : decode cL_acts 467 = .ok (.sipush 501, 3) := by decide +kernel
theorem dL_acts_470 : decode cL_acts 470 = .ok (.irem, 1) := by decide +kernel
theorem dL_acts_471 : decode cL_acts 471 = .ok (.sipush 250, 3) := by decide +kernel
theorem dL_acts_474 : decode cL_acts 474 = .ok (.isub, 1) := by decide +kernel
theorem dL_acts_475 : decode cL_acts 475 = .ok (.istore 7, 2) := by decide +kernel
theorem dL_acts_477 : decode cL_acts 477 = .ok (.iload 5, 2) := by decide +kernel
theorem dL_acts_479 : decode cL_acts 479 = .ok (.iconst 2, 1) := by decide +kernel
theorem dL_acts_480 : decode cL_acts 480 = .ok (.irem, 1) := by decide +kernel
theorem dL_acts_481 : decode cL_acts 481 = .ok (.ifCond .ne 7, 3) := by decide +kernel
theorem dL_acts_484 : decode cL_acts 484 = .ok (.iconst 1, 1) := by decide +kernel
theorem dL_acts_485 : decode cL_acts 485 = .ok (.goto 4, 3) := by decide +kernel
theorem dL_acts_488 : decode cL_acts 488 = .ok (.iconst 0, 1) := by decide +kernel
theorem dL_acts_489 : decode cL_acts 489 = .ok (.istore 8, 2) := by decide +kernel
theorem dL_acts_491 : decode cL_acts 491 = .ok (.iload 8, 2) := by decide +kernel
theorem dL_acts_493 : decode cL_acts 493 = .ok (.ifCond .eq 8, 3) := by decide +kernel
theorem dL_acts_496 : decode cL_acts 496 = .ok (.iload 7, 2) := by decide +kernel
theorem dL_acts_498 : decode cL_acts 498 = .ok (.goto 10, 3) := by decide +kernel
theorem dL_acts_501 : decode cL_acts 501 = .ok (.aload_n 1, 1) := by decide +kernel
theorem dL_acts_502 : decode cL_acts 502 = .ok (.bipush 10, 2) := by decide +kernel
theorem dL_acts_504 : decode cL_acts 504 = .ok (.iaload, 1) := by decide +kernel
theorem dL_acts_505 : decode cL_acts 505 = .ok (.iload 7, 2) := by decide +kernel
theorem dL_acts_507 : decode cL_acts 507 = .ok (.iadd, 1) := by decide +kernel
theorem dL_acts_508 : decode cL_acts 508 = .ok (.istore 9, 2) := by decide +kernel
theorem dL_acts_510 : decode cL_acts 510 = .ok (.aload_n 1, 1) := by decide +kernel
theorem dL_acts_511 : decode cL_acts 511 = .ok (.iload 9, 2) := by decide +kernel
theorem dL_acts_513 : decode cL_acts 513 = .ok (.invokestatic 59, 3) := by decide +kernel
theorem dL_acts_516 : decode cL_acts 516 = .ok (.ifCond .ne 34, 3) := by decide +kernel
theorem dL_acts_519 : decode cL_acts 519 = .ok (.iload 8, 2) := by decide +kernel
theorem dL_acts_521 : decode cL_acts 521 = .ok (.ifCond .eq 12, 3) := by decide +kernel
theorem dL_acts_524 : decode cL_acts 524 = .ok (.aload_n 0, 1) := by decide +kernel
theorem dL_acts_525 : decode cL_acts 525 = .ok (.iload 7, 2) := by decide +kernel
theorem dL_acts_527 : decode cL_acts 527 = .ok (.invokevirtual 63, 3) := by decide +kernel
theorem dL_acts_530 : decode cL_acts 530 = .ok (.goto 9, 3) := by decide +kernel
theorem dL_acts_533 : decode cL_acts 533 = .ok (.aload_n 0, 1) := by decide +kernel
theorem dL_acts_534 : decode cL_acts 534 = .ok (.iload 7, 2) := by decide +kernel
theorem dL_acts_536 : decode cL_acts 536 = .ok (.invokevirtual 66, 3) := by decide +kernel
theorem dL_acts_539 : decode cL_acts 539 = .ok (.ldc 58, 2) := by decide +kernel
theorem dL_acts_541 : decode cL_acts 541 = .ok (.if_icmp .ne 7, 3) := by decide +kernel
theorem dL_acts_544 : decode cL_acts 544 = .ok (.iconst 1, 1) := by decide +kernel
theorem dL_acts_545 : decode cL_acts 545 = .ok (.goto 4, 3) := by decide +kernel
theorem dL_acts_548 : decode cL_acts 548 = .ok (.iconst 0, 1) := by decide +kernel
theorem dL_acts_549 : decode cL_acts 549 = .ok (.ireturn, 1) := by decide +kernel
theorem dL_acts_550 : decode cL_acts 550 = .ok (.iconst 4, 1) := by decide +kernel
theorem dL_acts_551 : decode cL_acts 551 = .ok (.newarray .int, 2) := by decide +kernel
theorem dL_acts_553 : decode cL_acts 553 = .ok (.astore 10, 2) := by decide +kernel
theorem dL_acts_555 : decode cL_acts 555 = .ok (.aload_n 1, 1) := by decide +kernel
theorem dL_acts_556 : decode cL_acts 556 = .ok (.bipush 10, 2) := by decide +kernel
theorem dL_acts_558 : decode cL_acts 558 = .ok (.iaload, 1) := by decide +kernel
theorem dL_acts_559 : decode cL_acts 559 = .ok (.istore 11, 2) := by decide +kernel
theorem dL_acts_561 : decode cL_acts 561 = .ok (.aload_n 1, 1) := by decide +kernel
theorem dL_acts_562 : decode cL_acts 562 = .ok (.aload_n 2, 1) := by decide +kernel
theorem dL_acts_563 : decode cL_acts 563 = .ok (.aload_n 1, 1) := by decide +kernel
theorem dL_acts_564 : decode cL_acts 564 = .ok (.iconst 2, 1) := by decide +kernel
theorem dL_acts_565 : decode cL_acts 565 = .ok (.iaload, 1) := by decide +kernel
theorem dL_acts_566 : decode cL_acts 566 = .ok (.iload 9, 2) := by decide +kernel
theorem dL_acts_568 : decode cL_acts 568 = .ok (.aload 10, 2) := by decide +kernel
theorem dL_acts_570 : decode cL_acts 570 = .ok (.invokestatic 69, 3) := by decide +kernel
theorem dL_acts_573 : decode cL_acts 573 = .ok (.bipush 25, 2) := by decide +kernel
theorem dL_acts_575 : decode cL_acts 575 = .ok (.istore 12, 2) := by decide +kernel
theorem dL_acts_577 : decode cL_acts 577 = .ok (.iload 12, 2) := by decide +kernel
theorem dL_acts_579 : decode cL_acts 579 = .ok (.iconst 5, 1) := by decide +kernel
theorem dL_acts_580 : decode cL_acts 580 = .ok (.if_icmp .le 19, 3) := by decide +kernel
theorem dL_acts_583 : decode cL_acts 583 = .ok (.aload_n 3, 1) := by decide +kernel
theorem dL_acts_584 : decode cL_acts 584 = .ok (.iload 12, 2) := by decide +kernel
theorem dL_acts_586 : decode cL_acts 586 = .ok (.aload_n 3, 1) := by decide +kernel
theorem dL_acts_587 : decode cL_acts 587 = .ok (.iload 12, 2) := by decide +kernel
theorem dL_acts_589 : decode cL_acts 589 = .ok (.iconst 5, 1) := by decide +kernel
theorem dL_acts_590 : decode cL_acts 590 = .ok (.isub, 1) := by decide +kernel
theorem dL_acts_591 : decode cL_acts 591 = .ok (.iaload, 1) := by decide +kernel
theorem dL_acts_592 : decode cL_acts 592 = .ok (.iastore, 1) := by decide +kernel
theorem dL_acts_593 : decode cL_acts 593 = .ok (.iinc 12 (-1), 3) := by decide +kernel
theorem dL_acts_596 : decode cL_acts 596 = .ok (.goto (-19), 3) := by decide +kernel
theorem dL_acts_599 : decode cL_acts 599 = .ok (.aload_n 3, 1) := by decide +kernel
theorem dL_acts_600 : decode cL_acts 600 = .ok (.iconst 1, 1) := by decide +kernel
theorem dL_acts_601 : decode cL_acts 601 = .ok (.iload 11, 2) := by decide +kernel
theorem dL_acts_603 : decode cL_acts 603 = .ok (.iastore, 1) := by decide +kernel
theorem dL_acts_604 : decode cL_acts 604 = .ok (.aload_n 3, 1) := by decide +kernel
theorem dL_acts_605 : decode cL_acts 605 = .ok (.iconst 2, 1) := by decide +kernel
theorem dL_acts_606 : decode cL_acts 606 = .ok (.iload 9, 2) := by decide +kernel
theorem dL_acts_608 : decode cL_acts 608 = .ok (.iastore, 1) := by decide +kernel
theorem dL_acts_609 : decode cL_acts 609 = .ok (.aload_n 3, 1) := by decide +kernel
theorem dL_acts_610 : decode cL_acts 610 = .ok (.iconst 3, 1) := by decide +kernel
theorem dL_acts_611 : decode cL_acts 611 = .ok (.aload 10, 2) := by decide +kernel
theorem dL_acts_613 : decode cL_acts 613 = .ok (.iconst 0, 1) := by decide +kernel
theorem dL_acts_614 : decode cL_acts 614 = .ok (.iaload, 1) := by decide +kernel
theorem dL_acts_615 : decode cL_acts 615 = .ok (.iastore, 1) := by decide +kernel
theorem dL_acts_616 : decode cL_acts 616 = .ok (.aload_n 3, 1) := by decide +kernel
theorem dL_acts_617 : decode cL_acts 617 = .ok (.iconst 4, 1) := by decide +kernel
theorem dL_acts_618 : decode cL_acts 618 = .ok (.aload 10, 2) := by decide +kernel
theorem dL_acts_620 : decode cL_acts 620 = .ok (.iconst 1, 1) := by decide +kernel
theorem dL_acts_621 : decode cL_acts 621 = .ok (.iaload, 1) := by decide +kernel
theorem dL_acts_622 : decode cL_acts 622 = .ok (.iastore, 1) := by decide +kernel
theorem dL_acts_623 : decode cL_acts 623 = .ok (.aload_n 3, 1) := by decide +kernel
theorem dL_acts_624 : decode cL_acts 624 = .ok (.iconst 5, 1) := by decide +kernel
theorem dL_acts_625 : decode cL_acts 625 = .ok (.aload 10, 2) := by decide +kernel
theorem dL_acts_627 : decode cL_acts 627 = .ok (.iconst 2, 1) := by decide +kernel
theorem dL_acts_628 : decode cL_acts 628 = .ok (.iaload, 1) := by decide +kernel
theorem dL_acts_629 : decode cL_acts 629 = .ok (.iastore, 1) := by decide +kernel
theorem dL_acts_630 : decode cL_acts 630 = .ok (.aload_n 3, 1) := by decide +kernel
theorem dL_acts_631 : decode cL_acts 631 = .ok (.iconst 0, 1) := by decide +kernel
theorem dL_acts_632 : decode cL_acts 632 = .ok (.dup2, 1) := by decide +kernel
theorem dL_acts_633 : decode cL_acts 633 = .ok (.iaload, 1) := by decide +kernel
theorem dL_acts_634 : decode cL_acts 634 = .ok (.aload_n 3, 1) := by decide +kernel
theorem dL_acts_635 : decode cL_acts 635 = .ok (.iconst 0, 1) := by decide +kernel
theorem dL_acts_636 : decode cL_acts 636 = .ok (.iaload, 1) := by decide +kernel
theorem dL_acts_637 : decode cL_acts 637 = .ok (.iconst 5, 1) := by decide +kernel
theorem dL_acts_638 : decode cL_acts 638 = .ok (.if_icmp .ge 7, 3) := by decide +kernel
theorem dL_acts_641 : decode cL_acts 641 = .ok (.iconst 1, 1) := by decide +kernel
theorem dL_acts_642 : decode cL_acts 642 = .ok (.goto 4, 3) := by decide +kernel
theorem dL_acts_645 : decode cL_acts 645 = .ok (.iconst 0, 1) := by decide +kernel
theorem dL_acts_646 : decode cL_acts 646 = .ok (.iadd, 1) := by decide +kernel
theorem dL_acts_647 : decode cL_acts 647 = .ok (.iastore, 1) := by decide +kernel
theorem dL_acts_648 : decode cL_acts 648 = .ok (.iload 8, 2) := by decide +kernel
theorem dL_acts_650 : decode cL_acts 650 = .ok (.ifCond .eq 12, 3) := by decide +kernel
theorem dL_acts_653 : decode cL_acts 653 = .ok (.aload_n 0, 1) := by decide +kernel
theorem dL_acts_654 : decode cL_acts 654 = .ok (.iload 7, 2) := by decide +kernel
theorem dL_acts_656 : decode cL_acts 656 = .ok (.invokevirtual 63, 3) := by decide +kernel
theorem dL_acts_659 : decode cL_acts 659 = .ok (.goto 9, 3) := by decide +kernel
theorem dL_acts_662 : decode cL_acts 662 = .ok (.aload_n 0, 1) := by decide +kernel
theorem dL_acts_663 : decode cL_acts 663 = .ok (.iload 7, 2) := by decide +kernel
theorem dL_acts_665 : decode cL_acts 665 = .ok (.invokevirtual 66, 3) := by decide +kernel
theorem dL_acts_668 : decode cL_acts 668 = .ok (.aload 10, 2) := by decide +kernel
theorem dL_acts_670 : decode cL_acts 670 = .ok (.iconst 0, 1) := by decide +kernel
theorem dL_acts_671 : decode cL_acts 671 = .ok (.iaload, 1) := by decide +kernel
theorem dL_acts_672 : decode cL_acts 672 = .ok (.if_icmp .ne 7, 3) := by decide +kernel
theorem dL_acts_675 : decode cL_acts 675 = .ok (.iconst 1, 1) := by decide +kernel
theorem dL_acts_676 : decode cL_acts 676 = .ok (.goto 4, 3) := by decide +kernel
theorem dL_acts_679 : decode cL_acts 679 = .ok (.iconst 0, 1) := by decide +kernel
theorem dL_acts_680 : decode cL_acts 680 = .ok (.ireturn, 1) := by decide +kernel
theorem dL_acts_681 : decode cL_acts 681 = .ok (.iload 6, 2) := by decide +kernel
theorem dL_acts_683 : decode cL_acts 683 = .ok (.bipush 19, 2) := by decide +kernel
theorem dL_acts_685 : decode cL_acts 685 = .ok (.if_icmp .ge 64, 3) := by decide +kernel
theorem dL_acts_688 : decode cL_acts 688 = .ok (.bipush 19, 2) := by decide +kernel
theorem dL_acts_690 : decode cL_acts 690 = .ok (.newarray .int, 2) := by decide +kernel
theorem dL_acts_692 : decode cL_acts 692 = .ok (.astore 7, 2) := by decide +kernel
theorem dL_acts_694 : decode cL_acts 694 = .ok (.aload_n 1, 1) := by decide +kernel
theorem dL_acts_695 : decode cL_acts 695 = .ok (.aload 7, 2) := by decide +kernel
theorem dL_acts_697 : decode cL_acts 697 = .ok (.invokestatic 73, 3) := by decide +kernel
theorem dL_acts_700 : decode cL_acts 700 = .ok (.aload 7, 2) := by decide +kernel
theorem dL_acts_702 : decode cL_acts 702 = .ok (.aload_n 2, 1) := by decide +kernel
theorem dL_acts_703 : decode cL_acts 703 = .ok (.invokestatic 77, 3) := by decide +kernel
theorem dL_acts_706 : decode cL_acts 706 = .ok (.istore 8, 2) := by decide +kernel
theorem dL_acts_708 : decode cL_acts 708 = .ok (.iload 8, 2) := by decide +kernel
theorem dL_acts_710 : decode cL_acts 710 = .ok (.ifCond .ge 18, 3) := by decide +kernel
theorem dL_acts_713 : decode cL_acts 713 = .ok (.aload_n 0, 1) := by decide +kernel
theorem dL_acts_714 : decode cL_acts 714 = .ok (.invokevirtual 81, 3) := by decide +kernel
theorem dL_acts_717 : decode cL_acts 717 = .ok (.ldc 58, 2) := by decide +kernel
theorem dL_acts_719 : decode cL_acts 719 = .ok (.if_icmp .ne 7, 3) := by decide +kernel
theorem dL_acts_722 : decode cL_acts 722 = .ok (.iconst 1, 1) := by decide +kernel
theorem dL_acts_723 : decode cL_acts 723 = .ok (.goto 4, 3) := by decide +kernel
theorem dL_acts_726 : decode cL_acts 726 = .ok (.iconst 0, 1) := by decide +kernel
theorem dL_acts_727 : decode cL_acts 727 = .ok (.ireturn, 1) := by decide +kernel
theorem dL_acts_728 : decode cL_acts 728 = .ok (.aload 7, 2) := by decide +kernel
theorem dL_acts_730 : decode cL_acts 730 = .ok (.aload_n 1, 1) := by decide +kernel
theorem dL_acts_731 : decode cL_acts 731 = .ok (.invokestatic 73, 3) := by decide +kernel
theorem dL_acts_734 : decode cL_acts 734 = .ok (.aload_n 0, 1) := by decide +kernel
theorem dL_acts_735 : decode cL_acts 735 = .ok (.invokevirtual 81, 3) := by decide +kernel
theorem dL_acts_738 : decode cL_acts 738 = .ok (.iload 8, 2) := by decide +kernel
theorem dL_acts_740 : decode cL_acts 740 = .ok (.if_icmp .ne 7, 3) := by decide +kernel
theorem dL_acts_743 : decode cL_acts 743 = .ok (.iconst 1, 1) := by decide +kernel
theorem dL_acts_744 : decode cL_acts 744 = .ok (.goto 4, 3) := by decide +kernel
theorem dL_acts_747 : decode cL_acts 747 = .ok (.iconst 0, 1) := by decide +kernel
theorem dL_acts_748 : decode cL_acts 748 = .ok (.ireturn, 1) := by decide +kernel
theorem dL_acts_749 : decode cL_acts 749 = .ok (.aload_n 3, 1) := by decide +kernel
theorem dL_acts_750 : decode cL_acts 750 = .ok (.iconst 0, 1) := by decide +kernel
theorem dL_acts_751 : decode cL_acts 751 = .ok (.iaload, 1) := by decide +kernel
theorem dL_acts_752 : decode cL_acts 752 = .ok (.istore 7, 2) := by decide +kernel
theorem dL_acts_754 : decode cL_acts 754 = .ok (.aload_n 3, 1) := by decide +kernel
theorem dL_acts_755 : decode cL_acts 755 = .ok (.iconst 0, 1) := by decide +kernel
theorem dL_acts_756 : decode cL_acts 756 = .ok (.iconst 0, 1) := by decide +kernel
theorem dL_acts_757 : decode cL_acts 757 = .ok (.iastore, 1) := by decide +kernel
theorem dL_acts_758 : decode cL_acts 758 = .ok (.aload_n 0, 1) := by decide +kernel
theorem dL_acts_759 : decode cL_acts 759 = .ok (.invokevirtual 84, 3) := by decide +kernel
theorem dL_acts_762 : decode cL_acts 762 = .ok (.iload 7, 2) := by decide +kernel
theorem dL_acts_764 : decode cL_acts 764 = .ok (.if_icmp .ne 7, 3) := by decide +kernel
theorem dL_acts_767 : decode cL_acts 767 = .ok (.iconst 1, 1) := by decide +kernel
theorem dL_acts_768 : decode cL_acts 768 = .ok (.goto 4, 3) := by decide +kernel
theorem dL_acts_771 : decode cL_acts 771 = .ok (.iconst 0, 1) := by decide +kernel
theorem dL_acts_772 : decode cL_acts 772 = .ok (.ireturn, 1) := by decide +kernel
set_option maxRecDepth 20000 in
theorem ggL_isSo_X8_axis : GoodIn wsL_isSo wsX8_axis := goodIn_r _ [7, 8, 9, 59, 60, 61, 62, 63, 64, 65, 66, 67, 68, 69, 70, 71, 72, 73, 74, 75, 76, 77] (by decide +kernel) (by decide +kernel)
set_option maxRecDepth 20000 in
theorem gL_isSo_X8_axis : GoodIn wsL_isSo (wsV RL 87 RX8 yX8_axis wsX8_axis) := goodIn_app (goodIn_of _ (by decide +kernel)) ggL_isSo_X8_axis
set_option maxRecDepth 20000 in
theorem ggL_isSo_X8_count : GoodIn wsL_isSo wsX8_count := goodIn_r _ [13, 8, 14, 15, 9, 16, 17, 6, 18, 59, 60, 61, 62, 63, 64, 65, 66, 67, 68, 69, 70, 71, 72, 73, 74, 75, 76, 77, 78, 79, 80, 81, 82, 83, 84, 85, 86, 87, 88, 89, 90, 91] (by decide +kernel) (by decide +kernel)
set_option maxRecDepth 20000 in
theorem gL_isSo_X8_count : GoodIn wsL_isSo (wsV RL 91 RX8 yX8_count wsX8_count) := goodIn_app (goodIn_of _ (by decide +kernel)) ggL_isSo_X8_count
set_option maxRecDepth 20000 in
theorem ggL_isSo_X8_loadOf : GoodIn wsL_isSo wsX8_loadOf := goodIn_r _ [22, 8, 23, 24, 25, 26, 27, 28, 29, 30, 31, 32, 33, 17, 6, 18, 59, 60, 61, 62, 63, 64, 65, 66, 67, 68, 69, 70, 71, 72, 73, 74, 75, 76, 77, 78, 79, 80, 81] (by decide +kernel) (by decide +kernel)
set_option maxRecDepth 20000 in
theorem gL_isSo_X8_loadOf : GoodIn wsL_isSo (wsV RL 94 RX8 yX8_loadOf wsX8_loadOf) := goodIn_app (goodIn_of _ (by decide +kernel)) ggL_isSo_X8_loadOf
