set_option maxRecDepth 20000 in
theorem ggX8_leave_X8_puts : GoodIn wsX8_leave wsX8_puts := goodIn_r _ [9, 1, 10, 11, 12, 13, 14, 15, 16, 17, 18, 19, 20, 21, 22, 23, 24, 25, 26, 27, 28, 29, 30, 31, 32, 33, 34, 35, 36] (by decide +kernel) (by decide +kernel)
set_option maxRecDepth 20000 in
theorem gX8_leave_X8_puts : GoodIn wsX8_leave (wsV RX8 167 RX8 yX8_puts wsX8_puts) := goodIn_app (goodIn_of _ (by decide +kernel)) ggX8_leave_X8_puts
theorem dX8_leave_0 : decode cX8_leave 0 = .ok (.aload_n 0, 1) := by decide +kernel
theorem dX8_leave_1 : decode cX8_leave 1 = .ok (.iload_n 1, 1) := by decide +kernel
theorem dX8_leave_2 : decode cX8_leave 2 = .ok (.i2l, 1) := by decide +kernel
theorem dX8_leave_3 : decode cX8_leave 3 = .ok (.lconst 0, 1) := by decide +kernel
theorem dX8_leave_4 : decode cX8_leave 4 = .ok (.aload_n 0, 1) := by decide +kernel
theorem dX8_leave_5 : decode cX8_leave 5 = .ok (.getfield 7, 3) := by decide +kernel
theorem dX8_leave_8 : decode cX8_leave 8 = .ok (.bipush 41, 2) := by decide +kernel
theorem dX8_leave_10 : decode cX8_leave 10 = .ok (.iaload, 1) := by decide +kernel
theorem dX8_leave_11 : decode cX8_leave 11 = .ok (.i2l, 1) := by decide +kernel
theorem dX8_leave_12 : decode cX8_leave 12 = .ok (.invokestatic 53, 3) := by decide +kernel
theorem dX8_leave_15 : decode cX8_leave 15 = .ok (.bipush 41, 2) := by decide +kernel
theorem dX8_leave_17 : decode cX8_leave 17 = .ok (.iload_n 1, 1) := by decide +kernel
theorem dX8_leave_18 : decode cX8_leave 18 = .ok (.invokevirtual 167, 3) := by decide +kernel
theorem dX8_leave_21 : decode cX8_leave 21 = .ok (.ireturn, 1) := by decide +kernel
set_option maxRecDepth 20000 in
theorem ggX8_pass_X8_passOn : GoodIn wsX8_pass wsX8_passOn := goodIn_r _ [5, 6, 7, 8, 9, 10, 11, 12, 13, 14, 4, 15, 16, 17, 18, 19, 20, 21, 22, 23, 24, 25, 26, 27, 28, 29, 30, 31, 32, 33, 34, 35, 36, 37, 38, 39, 40, 41, 42] (by decide +kernel) (by decide +kernel)
set_option maxRecDepth 20000 in
theorem gX8_pass_X8_passOn : GoodIn wsX8_pass (wsV RX8 137 RX8 yX8_passOn wsX8_passOn) := goodIn_app (goodIn_of _ (by decide +kernel)) ggX8_pass_X8_passOn
theorem dX8_pass_0 : decode cX8_pass 0 = .ok (.aload_n 0, 1) := by decide +kernel
theorem dX8_pass_1 : decode cX8_pass 1 = .ok (.iconst 0, 1) := by decide +kernel
theorem dX8_pass_2 : decode cX8_pass 2 = .ok (.invokevirtual 137, 3) := by decide +kernel
theorem dX8_pass_5 : decode cX8_pass 5 = .ok (.ireturn, 1) := by decide +kernel
set_option maxRecDepth 20000 in
theorem ggX8_ticks_X8_isLong : GoodIn wsX8_ticks wsX8_isLong := goodIn_r _ [6, 7, 8, 9, 5, 10] (by decide +kernel) (by decide +kernel)
set_option maxRecDepth 20000 in
theorem gX8_ticks_X8_isLong : GoodIn wsX8_ticks (va_wsS RX8 177 yX8_isLong wsX8_isLong) := goodIn_app (goodIn_of _ (by decide +kernel)) ggX8_ticks_X8_isLong
set_option maxRecDepth 20000 in
theorem ggX8_ticks_X8_starts : GoodIn wsX8_ticks wsX8_starts := goodIn_r _ [14, 2, 15, 16, 17, 18, 45, 46, 47, 48, 49, 50, 51, 52, 53, 54, 55, 56, 57, 58, 59, 60, 61, 62, 63, 64, 65, 66, 67, 68, 69, 70, 71] (by decide +kernel) (by decide +kernel)
set_option maxRecDepth 20000 in
theorem gX8_ticks_X8_starts : GoodIn wsX8_ticks (wsV RX8 180 RX8 yX8_starts wsX8_starts) := goodIn_app (goodIn_of _ (by decide +kernel)) ggX8_ticks_X8_starts
set_option maxRecDepth 20000 in
theorem ggX8_ticks_X8_goesOn : GoodIn wsX8_ticks wsX8_goesOn := goodIn_r _ [22, 23, 24, 25, 5, 26, 1, 27, 28, 29, 30, 2, 15, 31, 16, 17, 32, 33, 34, 35, 18, 36, 37, 38, 39, 40, 41, 42, 43, 44, 45, 46, 47, 48, 49, 50, 51, 52, 53, 54, 55, 56, 57, 58, 59, 60, 61, 62, 63, 64, 65, 66, 67, 68, 69, 70, 71] (by decide +kernel) (by decide +kernel)
set_option maxRecDepth 20000 in
theorem gX8_ticks_X8_goesOn : GoodIn wsX8_ticks (wsV RX8 183 RX8 yX8_goesOn wsX8_goesOn) := goodIn_app (goodIn_of _ (by decide +kernel)) ggX8_ticks_X8_goesOn
theorem dX8_ticks_0 : decode cX8_ticks 0 = .ok (.iload_n 1, 1) := by decide +kernel
theorem dX8_ticks_1 : decode cX8_ticks 1 = .ok (.invokestatic 177, 3) := by decide +kernel
theorem dX8_ticks_4 : decode cX8_ticks 4 = .ok (.ifCond .ne 5, 3) := by decide +kernel
theorem dX8_ticks_7 : decode cX8_ticks 7 = .ok (.iconst (-1), 1) := by decide +kernel
theorem dX8_ticks_8 : decode cX8_ticks 8 = .ok (.ireturn, 1) := by decide +kernel
theorem dX8_ticks_9 : decode cX8_ticks 9 = .ok (.aload_n 0, 1) := by decide +kernel
theorem dX8_ticks_10 : decode cX8_ticks 10 = .ok (.getfield 7, 3) := by decide +kernel
theorem dX8_ticks_13 : decode cX8_ticks 13 = .ok (.bipush 42, 2) := by decide +kernel
theorem dX8_ticks_15 : decode cX8_ticks 15 = .ok (.iaload, 1) := by decide +kernel
theorem dX8_ticks_16 : decode cX8_ticks 16 = .ok (.iload_n 1, 1) := by decide +kernel
theorem dX8_ticks_17 : decode cX8_ticks 17 = .ok (.iadd, 1) := by decide +kernel
theorem dX8_ticks_18 : decode cX8_ticks 18 = .ok (.sipush 999, 3) := by decide +kernel
theorem dX8_ticks_21 : decode cX8_ticks 21 = .ok (.if_icmp .le 6, 3) := by decide +kernel
theorem dX8_ticks_24 : decode cX8_ticks 24 = .ok (.bipush (-3), 2) := by decide +kernel
theorem dX8_ticks_26 : decode cX8_ticks 26 = .ok (.ireturn, 1) := by decide +kernel
theorem dX8_ticks_27 : decode cX8_ticks 27 = .ok (.aload_n 0, 1) := by decide +kernel
theorem dX8_ticks_28 : decode cX8_ticks 28 = .ok (.invokevirtual 180, 3) := by decide +kernel
theorem dX8_ticks_31 : decode cX8_ticks 31 = .ok (.iconst 0, 1) := by decide +kernel
theorem dX8_ticks_32 : decode cX8_ticks 32 = .ok (.istore_n 2, 1) := by decide +kernel
theorem dX8_ticks_33 : decode cX8_ticks 33 = .ok (.iload_n 2, 1) := by decide +kernel
theorem dX8_ticks_34 : decode cX8_ticks 34 = .ok (.iload_n 1, 1) := by decide +kernel
theorem dX8_ticks_35 : decode cX8_ticks 35 = .ok (.if_icmp .ge 15, 3) := by decide +kernel
theorem dX8_ticks_38 : decode cX8_ticks 38 = .ok (.aload_n 0, 1) := by decide +kernel
theorem dX8_ticks_39 : decode cX8_ticks 39 = .ok (.iconst 0, 1) := by decide +kernel
theorem dX8_ticks_40 : decode cX8_ticks 40 = .ok (.invokevirtual 183, 3) := by decide +kernel
theorem dX8_ticks_43 : decode cX8_ticks 43 = .ok (.pop, 1) := by decide +kernel
theorem dX8_ticks_44 : decode cX8_ticks 44 = .ok (.iinc 2 1, 3) := by decide +kernel
theorem dX8_ticks_47 : decode cX8_ticks 47 = .ok (.goto (-14), 3) := by decide +kernel
theorem dX8_ticks_50 : decode cX8_ticks 50 = .ok (.aload_n 0, 1) := by decide +kernel
theorem dX8_ticks_51 : decode cX8_ticks 51 = .ok (.getfield 121, 3) := by decide +kernel
theorem dX8_ticks_54 : decode cX8_ticks 54 = .ok (.ireturn, 1) := by decide +kernel
theorem dX8_copies_0 : decode cX8_copies 0 = .ok (.iconst 0, 1) := by decide +kernel
theorem dX8_copies_1 : decode cX8_copies 1 = .ok (.istore_n 3, 1) := by decide +kernel
theorem dX8_copies_2 : decode cX8_copies 2 = .ok (.iload_n 3, 1) := by decide +kernel
theorem dX8_copies_3 : decode cX8_copies 3 = .ok (.bipush 45, 2) := by decide +kernel
theorem dX8_copies_5 : decode cX8_copies 5 = .ok (.if_icmp .ge 25, 3) := by decide +kernel
theorem dX8_copies_8 : decode cX8_copies 8 = .ok (.aload_n 0, 1) := by decide +kernel
theorem dX8_copies_9 : decode cX8_copies 9 = .ok (.getfield 7, 3) := by decide +kernel
theorem dX8_copies_12 : decode cX8_copies 12 = .ok (.iload_n 2, 1) := by decide +kernel
theorem dX8_copies_13 : decode cX8_copies 13 = .ok (.iload_n 3, 1) := by decide +kernel
theorem dX8_copies_14 : decode cX8_copies 14 = .ok (.iadd, 1) := by decide +kernel
theorem dX8_copies_15 : decode cX8_copies 15 = .ok (.aload_n 0, 1) := by decide +kernel
theorem dX8_copies_16 : decode cX8_copies 16 = .ok (.getfield 7, 3) := by decide +kernel
theorem dX8_copies_19 : decode cX8_copies 19 = .ok (.iload_n 1, 1) := by decide +kernel
theorem dX8_copies_20 : decode cX8_copies 20 = .ok (.iload_n 3, 1) := by decide +kernel
theorem dX8_copies_21 : decode cX8_copies 21 = .ok (.iadd, 1) := by decide +kernel
theorem dX8_copies_22 : decode cX8_copies 22 = .ok (.iaload, 1) := by decide +kernel
theorem dX8_copies_23 : decode cX8_copies 23 = .ok (.iastore, 1) := by decide +kernel
theorem dX8_copies_24 : decode cX8_copies 24 = .ok (.iinc 3 1, 3) := by decide +kernel
theorem dX8_copies_27 : decode cX8_copies 27 = .ok (.goto (-25), 3) := by decide +kernel
theorem dX8_copies_30 : decode cX8_copies 30 = .ok (.return_, 1) := by decide +kernel
set_option maxRecDepth 20000 in
theorem ggX8_ticksGo_X8_copies : GoodIn wsX8_ticksGo wsX8_copies := goodIn_r _ [6, 7, 42, 43, 44, 45, 46, 47, 48, 49, 50, 51, 52, 53, 54, 55, 56, 57, 58, 59, 60, 61, 62, 63, 64, 65, 66, 67, 68] (by decide +kernel) (by decide +kernel)
set_option maxRecDepth 20000 in
theorem gX8_ticksGo_X8_copies : GoodIn wsX8_ticksGo (wsV RX8 186 RX8 yX8_copies wsX8_copies) := goodIn_app (goodIn_of _ (by decide +kernel)) ggX8_ticksGo_X8_copies
set_option maxRecDepth 20000 in
theorem ggX8_ticksGo_X8_starts : GoodIn wsX8_ticksGo wsX8_starts := goodIn_r _ [11, 1, 12, 13, 14, 15, 42, 43, 44, 45, 46, 47, 48, 49, 50, 51, 52, 53, 54, 55, 56, 57, 58, 59, 60, 61, 62, 63, 64, 65, 66, 67, 68] (by decide +kernel) (by decide +kernel)
set_option maxRecDepth 20000 in
theorem gX8_ticksGo_X8_starts : GoodIn wsX8_ticksGo (wsV RX8 180 RX8 yX8_starts wsX8_starts) := goodIn_app (goodIn_of _ (by decide +kernel)) ggX8_ticksGo_X8_starts
set_option maxRecDepth 20000 in
theorem ggX8_ticksGo_X8_goesOn : GoodIn wsX8_ticksGo wsX8_goesOn := goodIn_r _ [19, 20, 21, 22, 5, 23, 7, 24, 25, 26, 27, 1, 12, 28, 13, 14, 29, 30, 31, 32, 15, 33, 34, 35, 36, 37, 38, 39, 40, 41, 42, 43, 44, 45, 46, 47, 48, 49, 50, 51, 52, 53, 54, 55, 56, 57, 58, 59, 60, 61, 62, 63, 64, 65, 66, 67, 68] (by decide +kernel) (by decide +kernel)
set_option maxRecDepth 20000 in
theorem gX8_ticksGo_X8_goesOn : GoodIn wsX8_ticksGo (wsV RX8 183 RX8 yX8_goesOn wsX8_goesOn) := goodIn_app (goodIn_of _ (by decide +kernel)) ggX8_ticksGo_X8_goesOn
theorem dX8_ticksGo_0 : decode cX8_ticksGo 0 = .ok (.aload_n 0, 1) := by decide +kernel
theorem dX8_ticksGo_1 : decode cX8_ticksGo 1 = .ok (.iload_n 1, 1) := by decide +kernel
theorem dX8_ticksGo_2 : decode cX8_ticksGo 2 = .ok (.sipush 180, 3) := by decide +kernel
theorem dX8_ticksGo_5 : decode cX8_ticksGo 5 = .ok (.invokevirtual 186, 3) := by decide +kernel
theorem dX8_ticksGo_8 : decode cX8_ticksGo 8 = .ok (.aload_n 0, 1) := by decide +kernel
theorem dX8_ticksGo_9 : decode cX8_ticksGo 9 = .ok (.invokevirtual 180, 3) := by decide +kernel
theorem dX8_ticksGo_12 : decode cX8_ticksGo 12 = .ok (.iconst 0, 1) := by decide +kernel
theorem dX8_ticksGo_13 : decode cX8_ticksGo 13 = .ok (.istore_n 3, 1) := by decide +kernel
theorem dX8_ticksGo_14 : decode cX8_ticksGo 14 = .ok (.iload_n 3, 1) := by decide +kernel
theorem dX8_ticksGo_15 : decode cX8_ticksGo 15 = .ok (.iload_n 2, 1) := by decide +kernel
theorem dX8_ticksGo_16 : decode cX8_ticksGo 16 = .ok (.if_icmp .ge 17, 3) := by decide +kernel
theorem dX8_ticksGo_19 : decode cX8_ticksGo 19 = .ok (.aload_n 0, 1) := by decide +kernel
theorem dX8_ticksGo_20 : decode cX8_ticksGo 20 = .ok (.sipush 180, 3) := by decide +kernel
theorem dX8_ticksGo_23 : decode cX8_ticksGo 23 = .ok (.invokevirtual 183, 3) := by decide +kernel
theorem dX8_ticksGo_26 : decode cX8_ticksGo 26 = .ok (.pop, 1) := by decide +kernel
theorem dX8_ticksGo_27 : decode cX8_ticksGo 27 = .ok (.iinc 3 1, 3) := by decide +kernel
theorem dX8_ticksGo_30 : decode cX8_ticksGo 30 = .ok (.goto (-16), 3) := by decide +kernel
theorem dX8_ticksGo_33 : decode cX8_ticksGo 33 = .ok (.aload_n 0, 1) := by decide +kernel
theorem dX8_ticksGo_34 : decode cX8_ticksGo 34 = .ok (.getfield 121, 3) := by decide +kernel
theorem dX8_ticksGo_37 : decode cX8_ticksGo 37 = .ok (.ireturn, 1) := by decide +kernel
set_option maxRecDepth 20000 in
theorem ggX8_runs_X8_isLong : GoodIn wsX8_runs wsX8_isLong := goodIn_r _ [8, 9, 10, 11, 7, 12] (by decide +kernel) (by decide +kernel)
set_option maxRecDepth 20000 in
theorem gX8_runs_X8_isLong : GoodIn wsX8_runs (va_wsS RX8 177 yX8_isLong wsX8_isLong) := goodIn_app (goodIn_of _ (by decide +kernel)) ggX8_runs_X8_isLong
set_option maxRecDepth 20000 in
theorem ggX8_runs_X8_in : GoodIn wsX8_runs wsX8_in := goodIn_r _ [12] (by decide +kernel) (by decide +kernel)
set_option maxRecDepth 20000 in
theorem gX8_runs_X8_in : GoodIn wsX8_runs (va_wsS RX8 53 yX8_in wsX8_in) := goodIn_app (goodIn_of _ (by decide +kernel)) ggX8_runs_X8_in
set_option maxRecDepth 20000 in
theorem ggX8_runs_X8_ticksGo : GoodIn wsX8_runs wsX8_ticksGo := goodIn_r _ [16, 17, 18, 19, 20, 7, 21, 22, 23, 24, 25, 26, 2, 3, 4, 27, 28, 29, 30, 31, 32, 33, 34, 35, 36, 37, 38, 39, 40, 41, 42, 43, 44, 45, 46, 47, 48, 49, 50, 51, 52, 53, 58, 59, 60, 61, 62, 63, 64, 65, 66, 67, 68, 69, 70, 71, 72, 73, 74, 75, 76, 77, 78, 79, 80, 81, 82, 83, 84] (by decide +kernel) (by decide +kernel)
set_option maxRecDepth 20000 in
theorem gX8_runs_X8_ticksGo : GoodIn wsX8_runs (wsV RX8 189 RX8 yX8_ticksGo wsX8_ticksGo) := goodIn_app (goodIn_of _ (by decide +kernel)) ggX8_runs_X8_ticksGo
set_option maxRecDepth 20000 in
theorem ggX8_runs_X8_holdOn : GoodIn wsX8_runs wsX8_holdOn := goodIn_r _ [57, 22, 58, 59, 60, 61, 62, 63, 64, 65, 66, 67, 68, 69, 70, 71, 72, 73, 74, 75, 76, 77, 78, 79, 80, 81, 82, 83, 84] (by decide +kernel) (by decide +kernel)
set_option maxRecDepth 20000 in
theorem gX8_runs_X8_holdOn : GoodIn wsX8_runs (wsV RX8 192 RX8 yX8_holdOn wsX8_holdOn) := goodIn_app (goodIn_of _ (by decide +kernel)) ggX8_runs_X8_holdOn
theorem dX8_runs_0 : decode cX8_runs 0 = .ok (.iload_n 1, 1) := by decide +kernel
theorem dX8_runs_1 : decode cX8_runs 1 = .ok (.invokestatic 177, 3) := by decide +kernel
theorem dX8_runs_4 : decode cX8_runs 4 = .ok (.ifCond .eq 15, 3) := by decide +kernel
theorem dX8_runs_7 : decode cX8_runs 7 = .ok (.iload_n 2, 1) := by decide +kernel
theorem dX8_runs_8 : decode cX8_runs 8 = .ok (.i2l, 1) := by decide +kernel
theorem dX8_runs_9 : decode cX8_runs 9 = .ok (.lconst 0, 1) := by decide +kernel
theorem dX8_runs_10 : decode cX8_runs 10 = .ok (.ldc2_w 105, 3) := by decide +kernel
theorem dX8_runs_13 : decode cX8_runs 13 = .ok (.invokestatic 53, 3) := by decide +kernel
theorem dX8_runs_16 : decode cX8_runs 16 = .ok (.ifCond .ne 5, 3) := by decide +kernel
theorem dX8_runs_19 : decode cX8_runs 19 = .ok (.iconst (-1), 1) := by decide +kernel
theorem dX8_runs_20 : decode cX8_runs 20 = .ok (.ireturn, 1) := by decide +kernel
theorem dX8_runs_21 : decode cX8_runs 21 = .ok (.aload_n 0, 1) := by decide +kernel
theorem dX8_runs_22 : decode cX8_runs 22 = .ok (.iconst 0, 1) := by decide +kernel
theorem dX8_runs_23 : decode cX8_runs 23 = .ok (.iload_n 1, 1) := by decide +kernel
theorem dX8_runs_24 : decode cX8_runs 24 = .ok (.invokevirtual 189, 3) := by decide +kernel
theorem dX8_runs_27 : decode cX8_runs 27 = .ok (.istore_n 3, 1) := by decide +kernel
theorem dX8_runs_28 : decode cX8_runs 28 = .ok (.iload_n 2, 1) := by decide +kernel
theorem dX8_runs_29 : decode cX8_runs 29 = .ok (.tableswitch 48 0 3 #[31, 33, 38, 43], 31) := by decide +kernel
theorem dX8_runs_60 : decode cX8_runs 60 = .ok (.iload_n 3, 1) := by decide +kernel
theorem dX8_runs_61 : decode cX8_runs 61 = .ok (.ireturn, 1) := by decide +kernel
theorem dX8_runs_62 : decode cX8_runs 62 = .ok (.aload_n 0, 1) := by decide +kernel
theorem dX8_runs_63 : decode cX8_runs 63 = .ok (.getfield 124, 3) := by decide +kernel
theorem dX8_runs_66 : decode cX8_runs 66 = .ok (.ireturn, 1) := by decide +kernel
theorem dX8_runs_67 : decode cX8_runs 67 = .ok (.aload_n 0, 1) := by decide +kernel
theorem dX8_runs_68 : decode cX8_runs 68 = .ok (.getfield 127, 3) := by decide +kernel
theorem dX8_runs_71 : decode cX8_runs 71 = .ok (.ireturn, 1) := by decide +kernel
theorem dX8_runs_72 : decode cX8_runs 72 = .ok (.aload_n 0, 1) := by decide +kernel
theorem dX8_runs_73 : decode cX8_runs 73 = .ok (.getfield 130, 3) := by decide +kernel
theorem dX8_runs_76 : decode cX8_runs 76 = .ok (.ireturn, 1) := by decide +kernel
theorem dX8_runs_77 : decode cX8_runs 77 = .ok (.aload_n 0, 1) := by decide +kernel
theorem dX8_runs_78 : decode cX8_runs 78 = .ok (.sipush 180, 3) := by decide +kernel
theorem dX8_runs_81 : decode cX8_runs 81 = .ok (.invokevirtual 192, 3) := by decide +kernel
theorem dX8_runs_84 : decode cX8_runs 84 = .ok (.ireturn, 1) := by decide +kernel
set_option maxRecDepth 20000 in
theorem ggX8_ahead_X8_isDoor : GoodIn wsX8_ahead wsX8_isDoor := goodIn_r _ [6, 1, 7, 8, 5, 9, 57, 58, 59, 60, 61, 62, 63, 64, 65, 66, 67, 68, 69, 70, 71, 72, 73, 74, 75, 76, 77, 78, 79, 80, 81, 82, 83] (by decide +kernel) (by decide +kernel)
set_option maxRecDepth 20000 in
theorem gX8_ahead_X8_isDoor : GoodIn wsX8_ahead (wsV RX8 150 RX8 yX8_isDoor wsX8_isDoor) := goodIn_app (goodIn_of _ (by decide +kernel)) ggX8_ahead_X8_isDoor
set_option maxRecDepth 20000 in
theorem ggX8_ahead_X8_isLong : GoodIn wsX8_ahead wsX8_isLong := goodIn_r _ [12, 13, 7, 8, 5, 9] (by decide +kernel) (by decide +kernel)
set_option maxRecDepth 20000 in
theorem gX8_ahead_X8_isLong : GoodIn wsX8_ahead (va_wsS RX8 177 yX8_isLong wsX8_isLong) := goodIn_app (goodIn_of _ (by decide +kernel)) ggX8_ahead_X8_isLong
set_option maxRecDepth 20000 in
theorem ggX8_ahead_X8_ticksGo : GoodIn wsX8_ahead wsX8_ticksGo := goodIn_r _ [17, 18, 19, 20, 21, 5, 22, 1, 23, 24, 25, 26, 27, 28, 29, 30, 31, 32, 33, 34, 35, 36, 37, 38, 39, 40, 41, 42, 43, 44, 45, 46, 47, 48, 49, 50, 51, 52, 53, 54, 55, 56, 57, 58, 59, 60, 61, 62, 63, 64, 65, 66, 67, 68, 69, 70, 71, 72, 73, 74, 75, 76, 77, 78, 79, 80, 81, 82, 83] (by decide +kernel) (by decide +kernel)
set_option maxRecDepth 20000 in
theorem gX8_ahead_X8_ticksGo : GoodIn wsX8_ahead (wsV RX8 189 RX8 yX8_ticksGo wsX8_ticksGo) := goodIn_app (goodIn_of _ (by decide +kernel)) ggX8_ahead_X8_ticksGo
theorem dX8_ahead_0 : decode cX8_ahead 0 = .ok (.aload_n 0, 1) := by decide +kernel
theorem dX8_ahead_1 : decode cX8_ahead 1 = .ok (.iload_n 1, 1) := by decide +kernel
theorem dX8_ahead_2 : decode cX8_ahead 2 = .ok (.invokevirtual 150, 3) := by decide +kernel
theorem dX8_ahead_5 : decode cX8_ahead 5 = .ok (.ifCond .eq 10, 3) := by decide +kernel
theorem dX8_ahead_8 : decode cX8_ahead 8 = .ok (.iload_n 2, 1) := by decide +kernel
theorem dX8_ahead_9 : decode cX8_ahead 9 = .ok (.invokestatic 177, 3) := by decide +kernel
theorem dX8_ahead_12 : decode cX8_ahead 12 = .ok (.ifCond .ne 5, 3) := by decide +kernel
theorem dX8_ahead_15 : decode cX8_ahead 15 = .ok (.iconst (-1), 1) := by decide +kernel
theorem dX8_ahead_16 : decode cX8_ahead 16 = .ok (.ireturn, 1) := by decide +kernel
theorem dX8_ahead_17 : decode cX8_ahead 17 = .ok (.aload_n 0, 1) := by decide +kernel
theorem dX8_ahead_18 : decode cX8_ahead 18 = .ok (.iconst 0, 1) := by decide +kernel
theorem dX8_ahead_19 : decode cX8_ahead 19 = .ok (.iload_n 2, 1) := by decide +kernel
theorem dX8_ahead_20 : decode cX8_ahead 20 = .ok (.invokevirtual 189, 3) := by decide +kernel
theorem dX8_ahead_23 : decode cX8_ahead 23 = .ok (.pop, 1) := by decide +kernel
theorem dX8_ahead_24 : decode cX8_ahead 24 = .ok (.aload_n 0, 1) := by decide +kernel
theorem dX8_ahead_25 : decode cX8_ahead 25 = .ok (.getfield 7, 3) := by decide +kernel
theorem dX8_ahead_28 : decode cX8_ahead 28 = .ok (.sipush 192, 3) := by decide +kernel
theorem dX8_ahead_31 : decode cX8_ahead 31 = .ok (.iload_n 1, 1) := by decide +kernel
theorem dX8_ahead_32 : decode cX8_ahead 32 = .ok (.iadd, 1) := by decide +kernel
theorem dX8_ahead_33 : decode cX8_ahead 33 = .ok (.iaload, 1) := by decide +kernel
theorem dX8_ahead_34 : decode cX8_ahead 34 = .ok (.ireturn, 1) := by decide +kernel
set_option maxRecDepth 20000 in
theorem ggX8_lets_X8_isLong : GoodIn wsX8_lets wsX8_isLong := goodIn_r _ [4, 5, 6, 7, 3, 8] (by decide +kernel) (by decide +kernel)
set_option maxRecDepth 20000 in
theorem gX8_lets_X8_isLong : GoodIn wsX8_lets (va_wsS RX8 177 yX8_isLong wsX8_isLong) := goodIn_app (goodIn_of _ (by decide +kernel)) ggX8_lets_X8_isLong
set_option maxRecDepth 20000 in
theorem ggX8_lets_X8_ticksGo : GoodIn wsX8_lets wsX8_ticksGo := goodIn_r _ [12, 13, 14, 15, 16, 3, 17, 18, 19, 20, 21, 22, 23, 24, 25, 26, 27, 28, 29, 30, 31, 32, 33, 34, 35, 36, 37, 38, 39, 40, 41, 42, 43, 44, 45, 46, 47, 48, 49, 50, 51, 52, 53, 54, 55, 56, 57, 58, 59, 60, 61, 62, 63, 64, 65, 66, 67, 68, 69, 70, 71, 72, 73, 74, 75, 76, 77, 78, 79] (by decide +kernel) (by decide +kernel)
set_option maxRecDepth 20000 in
theorem gX8_lets_X8_ticksGo : GoodIn wsX8_lets (wsV RX8 189 RX8 yX8_ticksGo wsX8_ticksGo) := goodIn_app (goodIn_of _ (by decide +kernel)) ggX8_lets_X8_ticksGo
set_option maxRecDepth 20000 in
theorem ggX8_lets_X8_goesOn : GoodIn wsX8_lets wsX8_goesOn := goodIn_r _ [30, 31, 32, 33, 3, 34, 18, 35, 36, 37, 38, 13, 23, 39, 24, 25, 40, 41, 42, 43, 26, 44, 45, 46, 47, 48, 49, 50, 51, 52, 53, 54, 55, 56, 57, 58, 59, 60, 61, 62, 63, 64, 65, 66, 67, 68, 69, 70, 71, 72, 73, 74, 75, 76, 77, 78, 79] (by decide +kernel) (by decide +kernel)
set_option maxRecDepth 20000 in
theorem gX8_lets_X8_goesOn : GoodIn wsX8_lets (wsV RX8 183 RX8 yX8_goesOn wsX8_goesOn) := goodIn_app (goodIn_of _ (by decide +kernel)) ggX8_lets_X8_goesOn
theorem dX8_lets_0 : decode cX8_lets 0 = .ok (.iload_n 1, 1) := by decide +kernel
theorem dX8_lets_1 : decode cX8_lets 1 = .ok (.invokestatic 177, 3) := by decide +kernel
theorem dX8_lets_4 : decode cX8_lets 4 = .ok (.ifCond .ne 5, 3) := by decide +kernel
theorem dX8_lets_7 : decode cX8_lets 7 = .ok (.iconst (-1), 1) := by decide +kernel
theorem dX8_lets_8 : decode cX8_lets 8 = .ok (.ireturn, 1) := by decide +kernel
theorem dX8_lets_9 : decode cX8_lets 9 = .ok (.aload_n 0, 1) := by decide +kernel
theorem dX8_lets_10 : decode cX8_lets 10 = .ok (.iconst 0, 1) := by decide +kernel
theorem dX8_lets_11 : decode cX8_lets 11 = .ok (.iload_n 1, 1) := by decide +kernel
theorem dX8_lets_12 : decode cX8_lets 12 = .ok (.invokevirtual 189, 3) := by decide +kernel
theorem dX8_lets_15 : decode cX8_lets 15 = .ok (.pop, 1) := by decide +kernel
theorem dX8_lets_16 : decode cX8_lets 16 = .ok (.aload_n 0, 1) := by decide +kernel
theorem dX8_lets_17 : decode cX8_lets 17 = .ok (.sipush 180, 3) := by decide +kernel
theorem dX8_lets_20 : decode cX8_lets 20 = .ok (.invokevirtual 183, 3) := by decide +kernel
theorem dX8_lets_23 : decode cX8_lets 23 = .ok (.ireturn, 1) := by decide +kernel
set_option maxRecDepth 20000 in
theorem ggX8_turns_X8_isDoor : GoodIn wsX8_turns wsX8_isDoor := goodIn_r _ [6, 7, 8, 9, 5, 10, 57, 58, 59, 60, 61, 62, 63, 64, 65, 66, 67, 68, 69, 70, 71, 72, 73, 74, 75, 76, 77, 78, 79, 80, 81, 82, 83] (by decide +kernel) (by decide +kernel)
set_option maxRecDepth 20000 in
theorem gX8_turns_X8_isDoor : GoodIn wsX8_turns (wsV RX8 150 RX8 yX8_isDoor wsX8_isDoor) := goodIn_app (goodIn_of _ (by decide +kernel)) ggX8_turns_X8_isDoor
set_option maxRecDepth 20000 in
theorem ggX8_turns_X8_isLong : GoodIn wsX8_turns wsX8_isLong := goodIn_r _ [13, 14, 8, 9, 5, 10] (by decide +kernel) (by decide +kernel)
set_option maxRecDepth 20000 in
theorem gX8_turns_X8_isLong : GoodIn wsX8_turns (va_wsS RX8 177 yX8_isLong wsX8_isLong) := goodIn_app (goodIn_of _ (by decide +kernel)) ggX8_turns_X8_isLong
set_option maxRecDepth 20000 in
theorem ggX8_turns_X8_ticksGo : GoodIn wsX8_turns wsX8_ticksGo := goodIn_r _ [18, 19, 20, 21, 22, 5, 23, 7, 24, 25, 26, 27, 28, 29, 30, 1, 31, 32, 33, 34, 35, 36, 37, 38, 39, 40, 41, 42, 43, 44, 45, 46, 47, 48, 49, 50, 51, 52, 53, 54, 55, 56, 57, 58, 59, 60, 61, 62, 63, 64, 65, 66, 67, 68, 69, 70, 71, 72, 73, 74, 75, 76, 77, 78, 79, 80, 81, 82, 83] (by decide +kernel) (by decide +kernel)
set_option maxRecDepth 20000 in
theorem gX8_turns_X8_ticksGo : GoodIn wsX8_turns (wsV RX8 189 RX8 yX8_ticksGo wsX8_ticksGo) := goodIn_app (goodIn_of _ (by decide +kernel)) ggX8_turns_X8_ticksGo
theorem dX8_turns_0 : decode cX8_turns 0 = .ok (.aload_n 0, 1) := by decide +kernel
theorem dX8_turns_1 : decode cX8_turns 1 = .ok (.iload_n 1, 1) := by decide +kernel
theorem dX8_turns_2 : decode cX8_turns 2 = .ok (.invokevirtual 150, 3) := by decide +kernel
theorem dX8_turns_5 : decode cX8_turns 5 = .ok (.ifCond .eq 10, 3) := by decide +kernel
theorem dX8_turns_8 : decode cX8_turns 8 = .ok (.iload_n 2, 1) := by decide +kernel
theorem dX8_turns_9 : decode cX8_turns 9 = .ok (.invokestatic 177, 3) := by decide +kernel
theorem dX8_turns_12 : decode cX8_turns 12 = .ok (.ifCond .ne 5, 3) := by decide +kernel
theorem dX8_turns_15 : decode cX8_turns 15 = .ok (.iconst (-1), 1) := by decide +kernel
theorem dX8_turns_16 : decode cX8_turns 16 = .ok (.ireturn, 1) := by decide +kernel
theorem dX8_turns_17 : decode cX8_turns 17 = .ok (.aload_n 0, 1) := by decide +kernel
theorem dX8_turns_18 : decode cX8_turns 18 = .ok (.iconst 0, 1) := by decide +kernel
theorem dX8_turns_19 : decode cX8_turns 19 = .ok (.iload_n 2, 1) := by decide +kernel
theorem dX8_turns_20 : decode cX8_turns 20 = .ok (.invokevirtual 189, 3) := by decide +kernel
theorem dX8_turns_23 : decode cX8_turns 23 = .ok (.pop, 1) := by decide +kernel
theorem dX8_turns_24 : decode cX8_turns 24 = .ok (.aload_n 0, 1) := by decide +kernel
theorem dX8_turns_25 : decode cX8_turns 25 = .ok (.getfield 29, 3) := by decide +kernel
theorem dX8_turns_28 : decode cX8_turns 28 = .ok (.iload_n 1, 1) := by decide +kernel
theorem dX8_turns_29 : decode cX8_turns 29 = .ok (.iaload, 1) := by decide +kernel
theorem dX8_turns_30 : decode cX8_turns 30 = .ok (.ireturn, 1) := by decide +kernel
set_option maxRecDepth 20000 in
theorem ggX8_when_X8_copies : GoodIn wsX8_when wsX8_copies := goodIn_r _ [6, 7, 42, 43, 44, 45, 46, 47, 48, 49, 50, 51, 52, 53, 54, 55, 56, 57, 58, 59, 60, 61, 62, 63, 64, 65, 66, 67, 68] (by decide +kernel) (by decide +kernel)
set_option maxRecDepth 20000 in
theorem gX8_when_X8_copies : GoodIn wsX8_when (wsV RX8 186 RX8 yX8_copies wsX8_copies) := goodIn_app (goodIn_of _ (by decide +kernel)) ggX8_when_X8_copies
set_option maxRecDepth 20000 in
theorem ggX8_when_X8_starts : GoodIn wsX8_when wsX8_starts := goodIn_r _ [11, 12, 1, 13, 14, 15, 42, 43, 44, 45, 46, 47, 48, 49, 50, 51, 52, 53, 54, 55, 56, 57, 58, 59, 60, 61, 62, 63, 64, 65, 66, 67, 68] (by decide +kernel) (by decide +kernel)
set_option maxRecDepth 20000 in
theorem gX8_when_X8_starts : GoodIn wsX8_when (wsV RX8 180 RX8 yX8_starts wsX8_starts) := goodIn_app (goodIn_of _ (by decide +kernel)) ggX8_when_X8_starts
set_option maxRecDepth 20000 in
theorem ggX8_when_X8_goesOn : GoodIn wsX8_when wsX8_goesOn := goodIn_r _ [19, 20, 21, 22, 5, 23, 7, 24, 25, 26, 27, 12, 1, 28, 13, 14, 29, 30, 31, 32, 15, 33, 34, 35, 36, 37, 38, 39, 40, 41, 42, 43, 44, 45, 46, 47, 48, 49, 50, 51, 52, 53, 54, 55, 56, 57, 58, 59, 60, 61, 62, 63, 64, 65, 66, 67, 68] (by decide +kernel) (by decide +kernel)
set_option maxRecDepth 20000 in
theorem gX8_when_X8_goesOn : GoodIn wsX8_when (wsV RX8 183 RX8 yX8_goesOn wsX8_goesOn) := goodIn_app (goodIn_of _ (by decide +kernel)) ggX8_when_X8_goesOn
theorem dX8_when_0 : decode cX8_when 0 = .ok (.aload_n 0, 1) := by decide +kernel
theorem dX8_when_1 : decode cX8_when 1 = .ok (.iconst 0, 1) := by decide +kernel
theorem dX8_when_2 : decode cX8_when 2 = .ok (.sipush 180, 3) := by decide +kernel
theorem dX8_when_5 : decode cX8_when 5 = .ok (.invokevirtual 186, 3) := by decide +kernel
theorem dX8_when_8 : decode cX8_when 8 = .ok (.aload_n 0, 1) := by decide +kernel
theorem dX8_when_9 : decode cX8_when 9 = .ok (.invokevirtual 180, 3) := by decide +kernel
theorem dX8_when_12 : decode cX8_when 12 = .ok (.iconst 0, 1) := by decide +kernel
theorem dX8_when_13 : decode cX8_when 13 = .ok (.istore_n 1, 1) := by decide +kernel
theorem dX8_when_14 : decode cX8_when 14 = .ok (.iload_n 1, 1) := by decide +kernel
theorem dX8_when_15 : decode cX8_when 15 = .ok (.bipush 100, 2) := by decide +kernel
theorem dX8_when_17 : decode cX8_when 17 = .ok (.if_icmp .gt 26, 3) := by decide +kernel
theorem dX8_when_20 : decode cX8_when 20 = .ok (.aload_n 0, 1) := by decide +kernel
theorem dX8_when_21 : decode cX8_when 21 = .ok (.sipush 180, 3) := by decide +kernel
theorem dX8_when_24 : decode cX8_when 24 = .ok (.invokevirtual 183, 3) := by decide +kernel
theorem dX8_when_27 : decode cX8_when 27 = .ok (.pop, 1) := by decide +kernel
theorem dX8_when_28 : decode cX8_when 28 = .ok (.aload_n 0, 1) := by decide +kernel
theorem dX8_when_29 : decode cX8_when 29 = .ok (.getfield 124, 3) := by decide +kernel
theorem dX8_when_32 : decode cX8_when 32 = .ok (.ifCond .le 5, 3) := by decide +kernel
theorem dX8_when_35 : decode cX8_when 35 = .ok (.iload_n 1, 1) := by decide +kernel
theorem dX8_when_36 : decode cX8_when 36 = .ok (.ireturn, 1) := by decide +kernel
theorem dX8_when_37 : decode cX8_when 37 = .ok (.iinc 1 1, 3) := by decide +kernel
theorem dX8_when_40 : decode cX8_when 40 = .ok (.goto (-26), 3) := by decide +kernel
theorem dX8_when_43 : decode cX8_when 43 = .ok (.bipush (-4), 2) := by decide +kernel
theorem dX8_when_45 : decode cX8_when 45 = .ok (.ireturn, 1) := by decide +kernel
set_option maxRecDepth 20000 in
theorem ggX8_depth_X8_isDoor : GoodIn wsX8_depth wsX8_isDoor := goodIn_r _ [6, 7, 8, 9, 5, 10, 61, 62, 63, 64, 65, 66, 67, 68, 69, 70, 71, 72, 73, 74, 75, 76, 77, 78, 79, 80, 81, 82, 83, 84, 85, 86, 87] (by decide +kernel) (by decide +kernel)
set_option maxRecDepth 20000 in
theorem gX8_depth_X8_isDoor : GoodIn wsX8_depth (wsV RX8 150 RX8 yX8_isDoor wsX8_isDoor) := goodIn_app (goodIn_of _ (by decide +kernel)) ggX8_depth_X8_isDoor
set_option maxRecDepth 20000 in
theorem ggX8_depth_X8_isLong : GoodIn wsX8_depth wsX8_isLong := goodIn_r _ [13, 14, 8, 9, 5, 10] (by decide +kernel) (by decide +kernel)
set_option maxRecDepth 20000 in
theorem gX8_depth_X8_isLong : GoodIn wsX8_depth (va_wsS RX8 177 yX8_isLong wsX8_isLong) := goodIn_app (goodIn_of _ (by decide +kernel)) ggX8_depth_X8_isLong
set_option maxRecDepth 20000 in
theorem ggX8_depth_X8_copies : GoodIn wsX8_depth wsX8_copies := goodIn_r _ [18, 7, 61, 62, 63, 64, 65, 66, 67, 68, 69, 70, 71, 72, 73, 74, 75, 76, 77, 78, 79, 80, 81, 82, 83, 84, 85, 86, 87] (by decide +kernel) (by decide +kernel)
set_option maxRecDepth 20000 in
theorem gX8_depth_X8_copies : GoodIn wsX8_depth (wsV RX8 186 RX8 yX8_copies wsX8_copies) := goodIn_app (goodIn_of _ (by decide +kernel)) ggX8_depth_X8_copies
set_option maxRecDepth 20000 in
theorem ggX8_depth_X8_deepOn : GoodIn wsX8_depth wsX8_deepOn := goodIn_r _ [22, 7, 61, 62, 63, 64, 65, 66, 67, 68, 69, 70, 71, 72, 73, 74, 75, 76, 77, 78, 79, 80, 81, 82, 83, 84, 85, 86, 87] (by decide +kernel) (by decide +kernel)
set_option maxRecDepth 20000 in
theorem gX8_depth_X8_deepOn : GoodIn wsX8_depth (wsV RX8 163 RX8 yX8_deepOn wsX8_deepOn) := goodIn_app (goodIn_of _ (by decide +kernel)) ggX8_depth_X8_deepOn
set_option maxRecDepth 20000 in
theorem ggX8_depth_X8_ticksGo : GoodIn wsX8_depth wsX8_ticksGo := goodIn_r _ [26, 27, 15, 16, 17, 5, 18, 7, 28, 29, 30, 31, 32, 33, 34, 1, 35, 36, 37, 38, 39, 40, 41, 42, 43, 44, 45, 46, 47, 48, 49, 50, 51, 52, 53, 54, 55, 56, 57, 58, 59, 60, 61, 62, 63, 64, 65, 66, 67, 68, 69, 70, 71, 72, 73, 74, 75, 76, 77, 78, 79, 80, 81, 82, 83, 84, 85, 86, 87] (by decide +kernel) (by decide +kernel)
set_option maxRecDepth 20000 in
theorem gX8_depth_X8_ticksGo : GoodIn wsX8_depth (wsV RX8 189 RX8 yX8_ticksGo wsX8_ticksGo) := goodIn_app (goodIn_of _ (by decide +kernel)) ggX8_depth_X8_ticksGo
theorem dX8_depth_0 : decode cX8_depth 0 = .ok (.aload_n 0, 1) := by decide +kernel
theorem dX8_depth_1 : decode cX8_depth 1 = .ok (.iload_n 1, 1) := by decide +kernel
theorem dX8_depth_2 : decode cX8_depth 2 = .ok (.invokevirtual 150, 3) := by decide +kernel
theorem dX8_depth_5 : decode cX8_depth 5 = .ok (.ifCond .eq 10, 3) := by decide +kernel
theorem dX8_depth_8 : decode cX8_depth 8 = .ok (.iload_n 2, 1) := by decide +kernel
theorem dX8_depth_9 : decode cX8_depth 9 = .ok (.invokestatic 177, 3) := by decide +kernel
theorem dX8_depth_12 : decode cX8_depth 12 = .ok (.ifCond .ne 5, 3) := by decide +kernel
theorem dX8_depth_15 : decode cX8_depth 15 = .ok (.iconst (-1), 1) := by decide +kernel
theorem dX8_depth_16 : decode cX8_depth 16 = .ok (.ireturn, 1) := by decide +kernel
theorem dX8_depth_17 : decode cX8_depth 17 = .ok (.iconst 1, 1) := by decide +kernel
theorem dX8_depth_18 : decode cX8_depth 18 = .ok (.istore_n 3, 1) := by decide +kernel
theorem dX8_depth_19 : decode cX8_depth 19 = .ok (.iload_n 3, 1) := by decide +kernel
theorem dX8_depth_20 : decode cX8_depth 20 = .ok (.bipush 9, 2) := by decide +kernel
theorem dX8_depth_22 : decode cX8_depth 22 = .ok (.if_icmp .gt 46, 3) := by decide +kernel
theorem dX8_depth_25 : decode cX8_depth 25 = .ok (.aload_n 0, 1) := by decide +kernel
theorem dX8_depth_26 : decode cX8_depth 26 = .ok (.iconst 0, 1) := by decide +kernel
theorem dX8_depth_27 : decode cX8_depth 27 = .ok (.sipush 225, 3) := by decide +kernel
theorem dX8_depth_30 : decode cX8_depth 30 = .ok (.invokevirtual 186, 3) := by decide +kernel
theorem dX8_depth_33 : decode cX8_depth 33 = .ok (.aload_n 0, 1) := by decide +kernel
theorem dX8_depth_34 : decode cX8_depth 34 = .ok (.sipush 225, 3) := by decide +kernel
theorem dX8_depth_37 : decode cX8_depth 37 = .ok (.iload_n 1, 1) := by decide +kernel
theorem dX8_depth_38 : decode cX8_depth 38 = .ok (.iload_n 3, 1) := by decide +kernel
theorem dX8_depth_39 : decode cX8_depth 39 = .ok (.invokevirtual 163, 3) := by decide +kernel
theorem dX8_depth_42 : decode cX8_depth 42 = .ok (.aload_n 0, 1) := by decide +kernel
theorem dX8_depth_43 : decode cX8_depth 43 = .ok (.sipush 225, 3) := by decide +kernel
theorem dX8_depth_46 : decode cX8_depth 46 = .ok (.iload_n 2, 1) := by decide +kernel
theorem dX8_depth_47 : decode cX8_depth 47 = .ok (.invokevirtual 189, 3) := by decide +kernel
theorem dX8_depth_50 : decode cX8_depth 50 = .ok (.pop, 1) := by decide +kernel
theorem dX8_depth_51 : decode cX8_depth 51 = .ok (.aload_n 0, 1) := by decide +kernel
theorem dX8_depth_52 : decode cX8_depth 52 = .ok (.getfield 29, 3) := by decide +kernel
theorem dX8_depth_55 : decode cX8_depth 55 = .ok (.iload_n 1, 1) := by decide +kernel
theorem dX8_depth_56 : decode cX8_depth 56 = .ok (.iaload, 1) := by decide +kernel
theorem dX8_depth_57 : decode cX8_depth 57 = .ok (.ifCond .ne 5, 3) := by decide +kernel
theorem dX8_depth_60 : decode cX8_depth 60 = .ok (.iload_n 3, 1) := by decide +kernel
theorem dX8_depth_61 : decode cX8_depth 61 = .ok (.ireturn, 1) := by decide +kernel
theorem dX8_depth_62 : decode cX8_depth 62 = .ok (.iinc 3 1, 3) := by decide +kernel
theorem dX8_depth_65 : decode cX8_depth 65 = .ok (.goto (-46), 3) := by decide +kernel
theorem dX8_depth_68 : decode cX8_depth 68 = .ok (.bipush (-4), 2) := by decide +kernel
theorem dX8_depth_70 : decode cX8_depth 70 = .ok (.ireturn, 1) := by decide +kernel
set_option maxRecDepth 20000 in
theorem ggX8_rate_X8_isDoor : GoodIn wsX8_rate wsX8_isDoor := goodIn_r _ [7, 1, 8, 9, 6, 10, 57, 58, 59, 60, 61, 62, 63, 64, 65, 66, 67, 68, 69, 70, 71, 72, 73, 74, 75, 76, 77, 78, 79, 80, 81, 82, 83] (by decide +kernel) (by decide +kernel)
set_option maxRecDepth 20000 in
theorem gX8_rate_X8_isDoor : GoodIn wsX8_rate (wsV RX8 150 RX8 yX8_isDoor wsX8_isDoor) := goodIn_app (goodIn_of _ (by decide +kernel)) ggX8_rate_X8_isDoor
set_option maxRecDepth 20000 in
theorem ggX8_rate_X8_isLong : GoodIn wsX8_rate wsX8_isLong := goodIn_r _ [13, 14, 8, 9, 6, 10] (by decide +kernel) (by decide +kernel)
set_option maxRecDepth 20000 in
theorem gX8_rate_X8_isLong : GoodIn wsX8_rate (va_wsS RX8 177 yX8_isLong wsX8_isLong) := goodIn_app (goodIn_of _ (by decide +kernel)) ggX8_rate_X8_isLong
set_option maxRecDepth 20000 in
theorem ggX8_rate_X8_copies : GoodIn wsX8_rate wsX8_copies := goodIn_r _ [18, 1, 57, 58, 59, 60, 61, 62, 63, 64, 65, 66, 67, 68, 69, 70, 71, 72, 73, 74, 75, 76, 77, 78, 79, 80, 81, 82, 83] (by decide +kernel) (by decide +kernel)
set_option maxRecDepth 20000 in
theorem gX8_rate_X8_copies : GoodIn wsX8_rate (wsV RX8 186 RX8 yX8_copies wsX8_copies) := goodIn_app (goodIn_of _ (by decide +kernel)) ggX8_rate_X8_copies
set_option maxRecDepth 20000 in
theorem ggX8_rate_X8_ticksGo : GoodIn wsX8_rate wsX8_ticksGo := goodIn_r _ [22, 23, 15, 16, 17, 6, 18, 1, 24, 25, 26, 27, 28, 29, 30, 2, 31, 32, 33, 34, 35, 36, 37, 38, 39, 40, 41, 42, 43, 44, 45, 46, 47, 48, 49, 50, 51, 52, 53, 54, 55, 56, 57, 58, 59, 60, 61, 62, 63, 64, 65, 66, 67, 68, 69, 70, 71, 72, 73, 74, 75, 76, 77, 78, 79, 80, 81, 82, 83] (by decide +kernel) (by decide +kernel)
set_option maxRecDepth 20000 in
theorem gX8_rate_X8_ticksGo : GoodIn wsX8_rate (wsV RX8 189 RX8 yX8_ticksGo wsX8_ticksGo) := goodIn_app (goodIn_of _ (by decide +kernel)) ggX8_rate_X8_ticksGo
theorem dX8_rate_0 : decode cX8_rate 0 = .ok (.aload_n 0, 1) := by decide +kernel
theorem dX8_rate_1 : decode cX8_rate 1 = .ok (.iload_n 1, 1) := by decide +kernel
theorem dX8_rate_2 : decode cX8_rate 2 = .ok (.invokevirtual 150, 3) := by decide +kernel
theorem dX8_rate_5 : decode cX8_rate 5 = .ok (.ifCond .eq 10, 3) := by decide +kernel
theorem dX8_rate_8 : decode cX8_rate 8 = .ok (.iload_n 2, 1) := by decide +kernel
theorem dX8_rate_9 : decode cX8_rate 9 = .ok (.invokestatic 177, 3) := by decide +kernel
theorem dX8_rate_12 : decode cX8_rate 12 = .ok (.ifCond .ne 5, 3) := by decide +kernel
theorem dX8_rate_15 : decode cX8_rate 15 = .ok (.iconst (-1), 1) := by decide +kernel
theorem dX8_rate_16 : decode cX8_rate 16 = .ok (.ireturn, 1) := by decide +kernel
theorem dX8_rate_17 : decode cX8_rate 17 = .ok (.aload_n 0, 1) := by decide +kernel
theorem dX8_rate_18 : decode cX8_rate 18 = .ok (.iconst 0, 1) := by decide +kernel
theorem dX8_rate_19 : decode cX8_rate 19 = .ok (.sipush 225, 3) := by decide +kernel
theorem dX8_rate_22 : decode cX8_rate 22 = .ok (.invokevirtual 186, 3) := by decide +kernel
theorem dX8_rate_25 : decode cX8_rate 25 = .ok (.iconst 0, 1) := by decide +kernel
theorem dX8_rate_26 : decode cX8_rate 26 = .ok (.istore_n 3, 1) := by decide +kernel
theorem dX8_rate_27 : decode cX8_rate 27 = .ok (.iload_n 3, 1) := by decide +kernel
theorem dX8_rate_28 : decode cX8_rate 28 = .ok (.bipush 9, 2) := by decide +kernel
theorem dX8_rate_30 : decode cX8_rate 30 = .ok (.if_icmp .gt 40, 3) := by decide +kernel
theorem dX8_rate_33 : decode cX8_rate 33 = .ok (.aload_n 0, 1) := by decide +kernel
theorem dX8_rate_34 : decode cX8_rate 34 = .ok (.getfield 7, 3) := by decide +kernel
theorem dX8_rate_37 : decode cX8_rate 37 = .ok (.sipush 233, 3) := by decide +kernel
theorem dX8_rate_40 : decode cX8_rate 40 = .ok (.iload_n 1, 1) := by decide +kernel
theorem dX8_rate_41 : decode cX8_rate 41 = .ok (.iadd, 1) := by decide +kernel
theorem dX8_rate_42 : decode cX8_rate 42 = .ok (.iload_n 3, 1) := by decide +kernel
theorem dX8_rate_43 : decode cX8_rate 43 = .ok (.iastore, 1) := by decide +kernel
theorem dX8_rate_44 : decode cX8_rate 44 = .ok (.aload_n 0, 1) := by decide +kernel
theorem dX8_rate_45 : decode cX8_rate 45 = .ok (.sipush 225, 3) := by decide +kernel
theorem dX8_rate_48 : decode cX8_rate 48 = .ok (.iload_n 2, 1) := by decide +kernel
theorem dX8_rate_49 : decode cX8_rate 49 = .ok (.invokevirtual 189, 3) := by decide +kernel
theorem dX8_rate_52 : decode cX8_rate 52 = .ok (.pop, 1) := by decide +kernel
theorem dX8_rate_53 : decode cX8_rate 53 = .ok (.aload_n 0, 1) := by decide +kernel
theorem dX8_rate_54 : decode cX8_rate 54 = .ok (.getfield 29, 3) := by decide +kernel
theorem dX8_rate_57 : decode cX8_rate 57 = .ok (.iload_n 1, 1) := by decide +kernel
theorem dX8_rate_58 : decode cX8_rate 58 = .ok (.iaload, 1) := by decide +kernel
theorem dX8_rate_59 : decode cX8_rate 59 = .ok (.ifCond .ne 5, 3) := by decide +kernel
theorem dX8_rate_62 : decode cX8_rate 62 = .ok (.iload_n 3, 1) := by decide +kernel
theorem dX8_rate_63 : decode cX8_rate 63 = .ok (.ireturn, 1) := by decide +kernel
theorem dX8_rate_64 : decode cX8_rate 64 = .ok (.iinc 3 1, 3) := by decide +kernel
theorem dX8_rate_67 : decode cX8_rate 67 = .ok (.goto (-40), 3) := by decide +kernel
theorem dX8_rate_70 : decode cX8_rate 70 = .ok (.bipush (-4), 2) := by decide +kernel
theorem dX8_rate_72 : decode cX8_rate 72 = .ok (.ireturn, 1) := by decide +kernel
set_option maxRecDepth 20000 in
theorem ggX8_swap_X8_isLong : GoodIn wsX8_swap wsX8_isLong := goodIn_r _ [5, 6, 7, 8, 4, 9] (by decide +kernel) (by decide +kernel)
set_option maxRecDepth 20000 in
theorem gX8_swap_X8_isLong : GoodIn wsX8_swap (va_wsS RX8 177 yX8_isLong wsX8_isLong) := goodIn_app (goodIn_of _ (by decide +kernel)) ggX8_swap_X8_isLong
set_option maxRecDepth 20000 in
theorem ggX8_swap_X8_in : GoodIn wsX8_swap wsX8_in := goodIn_r _ [9] (by decide +kernel) (by decide +kernel)
set_option maxRecDepth 20000 in
theorem gX8_swap_X8_in : GoodIn wsX8_swap (va_wsS RX8 53 yX8_in wsX8_in) := goodIn_app (goodIn_of _ (by decide +kernel)) ggX8_swap_X8_in
set_option maxRecDepth 20000 in
theorem ggX8_swap_X8_ticksGo : GoodIn wsX8_swap wsX8_ticksGo := goodIn_r _ [13, 14, 15, 16, 17, 4, 18, 1, 19, 20, 21, 22, 23, 24, 25, 26, 27, 28, 29, 30, 31, 32, 33, 34, 35, 36, 37, 38, 39, 40, 41, 42, 43, 44, 45, 46, 47, 48, 49, 50, 51, 52, 53, 54, 55, 56, 57, 58, 59, 60, 61, 62, 63, 64, 65, 66, 67, 68, 69, 70, 71, 72, 73, 74, 75, 76, 77, 78, 79] (by decide +kernel) (by decide +kernel)
set_option maxRecDepth 20000 in
theorem gX8_swap_X8_ticksGo : GoodIn wsX8_swap (wsV RX8 189 RX8 yX8_ticksGo wsX8_ticksGo) := goodIn_app (goodIn_of _ (by decide +kernel)) ggX8_swap_X8_ticksGo
set_option maxRecDepth 20000 in
theorem ggX8_swap_X8_copies : GoodIn wsX8_swap wsX8_copies := goodIn_r _ [18, 1, 53, 54, 55, 56, 57, 58, 59, 60, 61, 62, 63, 64, 65, 66, 67, 68, 69, 70, 71, 72, 73, 74, 75, 76, 77, 78, 79] (by decide +kernel) (by decide +kernel)
set_option maxRecDepth 20000 in
theorem gX8_swap_X8_copies : GoodIn wsX8_swap (wsV RX8 186 RX8 yX8_copies wsX8_copies) := goodIn_app (goodIn_of _ (by decide +kernel)) ggX8_swap_X8_copies
theorem dX8_swap_0 : decode cX8_swap 0 = .ok (.iload_n 1, 1) := by decide +kernel
theorem dX8_swap_1 : decode cX8_swap 1 = .ok (.invokestatic 177, 3) := by decide +kernel
theorem dX8_swap_4 : decode cX8_swap 4 = .ok (.ifCond .eq 13, 3) := by decide +kernel
theorem dX8_swap_7 : decode cX8_swap 7 = .ok (.iload_n 2, 1) := by decide +kernel
theorem dX8_swap_8 : decode cX8_swap 8 = .ok (.i2l, 1) := by decide +kernel
theorem dX8_swap_9 : decode cX8_swap 9 = .ok (.lconst 0, 1) := by decide +kernel
theorem dX8_swap_10 : decode cX8_swap 10 = .ok (.lconst 1, 1) := by decide +kernel
theorem dX8_swap_11 : decode cX8_swap 11 = .ok (.invokestatic 53, 3) := by decide +kernel
theorem dX8_swap_14 : decode cX8_swap 14 = .ok (.ifCond .ne 5, 3) := by decide +kernel
theorem dX8_swap_17 : decode cX8_swap 17 = .ok (.iconst (-1), 1) := by decide +kernel
theorem dX8_swap_18 : decode cX8_swap 18 = .ok (.ireturn, 1) := by decide +kernel
theorem dX8_swap_19 : decode cX8_swap 19 = .ok (.aload_n 0, 1) := by decide +kernel
theorem dX8_swap_20 : decode cX8_swap 20 = .ok (.iconst 0, 1) := by decide +kernel
theorem dX8_swap_21 : decode cX8_swap 21 = .ok (.iload_n 1, 1) := by decide +kernel
theorem dX8_swap_22 : decode cX8_swap 22 = .ok (.invokevirtual 189, 3) := by decide +kernel
theorem dX8_swap_25 : decode cX8_swap 25 = .ok (.istore_n 3, 1) := by decide +kernel
theorem dX8_swap_26 : decode cX8_swap 26 = .ok (.bipush (-4), 2) := by decide +kernel
theorem dX8_swap_28 : decode cX8_swap 28 = .ok (.istore 4, 2) := by decide +kernel
theorem dX8_swap_30 : decode cX8_swap 30 = .ok (.iconst 0, 1) := by decide +kernel
theorem dX8_swap_31 : decode cX8_swap 31 = .ok (.istore 5, 2) := by decide +kernel
theorem dX8_swap_33 : decode cX8_swap 33 = .ok (.iload 5, 2) := by decide +kernel
theorem dX8_swap_35 : decode cX8_swap 35 = .ok (.aload_n 0, 1) := by decide +kernel
theorem dX8_swap_36 : decode cX8_swap 36 = .ok (.getfield 7, 3) := by decide +kernel
theorem dX8_swap_39 : decode cX8_swap 39 = .ok (.bipush 16, 2) := by decide +kernel
theorem dX8_swap_41 : decode cX8_swap 41 = .ok (.iaload, 1) := by decide +kernel
theorem dX8_swap_42 : decode cX8_swap 42 = .ok (.if_icmp .ge 149, 3) := by decide +kernel
theorem dX8_swap_45 : decode cX8_swap 45 = .ok (.iload 5, 2) := by decide +kernel
theorem dX8_swap_47 : decode cX8_swap 47 = .ok (.iconst 1, 1) := by decide +kernel
theorem dX8_swap_48 : decode cX8_swap 48 = .ok (.iadd, 1) := by decide +kernel
theorem dX8_swap_49 : decode cX8_swap 49 = .ok (.istore 6, 2) := by decide +kernel
theorem dX8_swap_51 : decode cX8_swap 51 = .ok (.iload 6, 2) := by decide +kernel
theorem dX8_swap_53 : decode cX8_swap 53 = .ok (.aload_n 0, 1) := by decide +kernel
theorem dX8_swap_54 : decode cX8_swap 54 = .ok (.getfield 7, 3) := by decide +kernel
theorem dX8_swap_57 : decode cX8_swap 57 = .ok (.bipush 16, 2) := by decide +kernel
theorem dX8_swap_59 : decode cX8_swap 59 = .ok (.iaload, 1) := by decide +kernel
theorem dX8_swap_60 : decode cX8_swap 60 = .ok (.if_icmp .ge 125, 3) := by decide +kernel
theorem dX8_swap_63 : decode cX8_swap 63 = .ok (.aload_n 0, 1) := by decide +kernel
theorem dX8_swap_64 : decode cX8_swap 64 = .ok (.iconst 0, 1) := by decide +kernel
theorem dX8_swap_65 : decode cX8_swap 65 = .ok (.sipush 225, 3) := by decide +kernel
theorem dX8_swap_68 : decode cX8_swap 68 = .ok (.invokevirtual 186, 3) := by decide +kernel
theorem dX8_swap_71 : decode cX8_swap 71 = .ok (.iconst 0, 1) := by decide +kernel
theorem dX8_swap_72 : decode cX8_swap 72 = .ok (.istore 7, 2) := by decide +kernel
theorem dX8_swap_74 : decode cX8_swap 74 = .ok (.iload 7, 2) := by decide +kernel
theorem dX8_swap_76 : decode cX8_swap 76 = .ok (.bipush 16, 2) := by decide +kernel
theorem dX8_swap_78 : decode cX8_swap 78 = .ok (.if_icmp .ge 57, 3) := by decide +kernel
theorem dX8_swap_81 : decode cX8_swap 81 = .ok (.aload_n 0, 1) := by decide +kernel
theorem dX8_swap_82 : decode cX8_swap 82 = .ok (.getfield 7, 3) := by decide +kernel
theorem dX8_swap_85 : decode cX8_swap 85 = .ok (.sipush 225, 3) := by decide +kernel
theorem dX8_swap_88 : decode cX8_swap 88 = .ok (.iload 7, 2) := by decide +kernel
theorem dX8_swap_90 : decode cX8_swap 90 = .ok (.iadd, 1) := by decide +kernel
theorem dX8_swap_91 : decode cX8_swap 91 = .ok (.iload 5, 2) := by decide +kernel
theorem dX8_swap_93 : decode cX8_swap 93 = .ok (.iadd, 1) := by decide +kernel
theorem dX8_swap_94 : decode cX8_swap 94 = .ok (.aload_n 0, 1) := by decide +kernel
theorem dX8_swap_95 : decode cX8_swap 95 = .ok (.getfield 7, 3) := by decide +kernel
theorem dX8_swap_98 : decode cX8_swap 98 = .ok (.iload 7, 2) := by decide +kernel
theorem dX8_swap_100 : decode cX8_swap 100 = .ok (.iload 6, 2) := by decide +kernel
theorem dX8_swap_102 : decode cX8_swap 102 = .ok (.iadd, 1) := by decide +kernel
theorem dX8_swap_103 : decode cX8_swap 103 = .ok (.iaload, 1) := by decide +kernel
theorem dX8_swap_104 : decode cX8_swap 104 = .ok (.iastore, 1) := by decide +kernel
theorem dX8_swap_105 : decode cX8_swap 105 = .ok (.aload_n 0, 1) := by decide +kernel
theorem dX8_swap_106 : decode cX8_swap 106 = .ok (.getfield 7, 3) := by decide +kernel
theorem dX8_swap_109 : decode cX8_swap 109 = .ok (.sipush 225, 3) := by decide +kernel
theorem dX8_swap_112 : decode cX8_swap 112 = .ok (.iload 7, 2) := by decide +kernel
theorem dX8_swap_114 : decode cX8_swap 114 = .ok (.iadd, 1) := by decide +kernel
theorem dX8_swap_115 : decode cX8_swap 115 = .ok (.iload 6, 2) := by decide +kernel
theorem dX8_swap_117 : decode cX8_swap 117 = .ok (.iadd, 1) := by decide +kernel
theorem dX8_swap_118 : decode cX8_swap 118 = .ok (.aload_n 0, 1) := by decide +kernel
theorem dX8_swap_119 : decode cX8_swap 119 = .ok (.getfield 7, 3) := by decide +kernel
theorem dX8_swap_122 : decode cX8_swap 122 = .ok (.iload 7, 2) := by decide +kernel
theorem dX8_swap_124 : decode cX8_swap 124 = .ok (.iload 5, 2) := by decide +kernel
theorem dX8_swap_126 : decode cX8_swap 126 = .ok (.iadd, 1) := by decide +kernel
theorem dX8_swap_127 : decode cX8_swap 127 = .ok (.iaload, 1) := by decide +kernel
theorem dX8_swap_128 : decode cX8_swap 128 = .ok (.iastore, 1) := by decide +kernel
theorem dX8_swap_129 : decode cX8_swap 129 = .ok (.iinc 7 4, 3) := by decide +kernel
theorem dX8_swap_132 : decode cX8_swap 132 = .ok (.goto (-58), 3) := by decide +kernel
theorem dX8_swap_135 : decode cX8_swap 135 = .ok (.aload_n 0, 1) := by decide +kernel
theorem dX8_swap_136 : decode cX8_swap 136 = .ok (.sipush 225, 3) := by decide +kernel
theorem dX8_swap_139 : decode cX8_swap 139 = .ok (.iload_n 1, 1) := by decide +kernel
theorem dX8_swap_140 : decode cX8_swap 140 = .ok (.invokevirtual 189, 3) := by decide +kernel
theorem dX8_swap_143 : decode cX8_swap 143 = .ok (.istore 7, 2) := by decide +kernel
theorem dX8_swap_145 : decode cX8_swap 145 = .ok (.iload 7, 2) := by decide +kernel
theorem dX8_swap_147 : decode cX8_swap 147 = .ok (.iload_n 3, 1) := by decide +kernel
theorem dX8_swap_148 : decode cX8_swap 148 = .ok (.if_icmp .le 14, 3) := by decide +kernel
theorem dX8_swap_151 : decode cX8_swap 151 = .ok (.bipush 10, 2) := by decide +kernel
theorem dX8_swap_153 : decode cX8_swap 153 = .ok (.iload 5, 2) := by decide +kernel
theorem dX8_swap_155 : decode cX8_swap 155 = .ok (.imul, 1) := by decide +kernel
theorem dX8_swap_156 : decode cX8_swap 156 = .ok (.iload 6, 2) := by decide +kernel
theorem dX8_swap_158 : decode cX8_swap 158 = .ok (.iadd, 1) := by decide +kernel
theorem dX8_swap_159 : decode cX8_swap 159 = .ok (.goto 5, 3) := by decide +kernel
theorem dX8_swap_162 : decode cX8_swap 162 = .ok (.iload 4, 2) := by decide +kernel
theorem dX8_swap_164 : decode cX8_swap 164 = .ok (.istore 4, 2) := by decide +kernel
theorem dX8_swap_166 : decode cX8_swap 166 = .ok (.iload 7, 2) := by decide +kernel
theorem dX8_swap_168 : decode cX8_swap 168 = .ok (.iload_n 3, 1) := by decide +kernel
theorem dX8_swap_169 : decode cX8_swap 169 = .ok (.if_icmp .le 8, 3) := by decide +kernel
theorem dX8_swap_172 : decode cX8_swap 172 = .ok (.iload 7, 2) := by decide +kernel
theorem dX8_swap_174 : decode cX8_swap 174 = .ok (.goto 4, 3) := by decide +kernel
theorem dX8_swap_177 : decode cX8_swap 177 = .ok (.iload_n 3, 1) := by decide +kernel
theorem dX8_swap_178 : decode cX8_swap 178 = .ok (.istore_n 3, 1) := by decide +kernel
theorem dX8_swap_179 : decode cX8_swap 179 = .ok (.iinc 6 1, 3) := by decide +kernel
theorem dX8_swap_182 : decode cX8_swap 182 = .ok (.goto (-131), 3) := by decide +kernel
theorem dX8_swap_185 : decode cX8_swap 185 = .ok (.iinc 5 1, 3) := by decide +kernel
theorem dX8_swap_188 : decode cX8_swap 188 = .ok (.goto (-155), 3) := by decide +kernel
theorem dX8_swap_191 : decode cX8_swap 191 = .ok (.iload 4, 2) := by decide +kernel
theorem dX8_swap_193 : decode cX8_swap 193 = .ok (.bipush (-4), 2) := by decide +kernel
theorem dX8_swap_195 : decode cX8_swap 195 = .ok (.if_icmp .eq 7, 3) := by decide +kernel
theorem dX8_swap_198 : decode cX8_swap 198 = .ok (.iload_n 2, 1) := by decide +kernel
theorem dX8_swap_199 : decode cX8_swap 199 = .ok (.ifCond .ne 8, 3) := by decide +kernel
theorem dX8_swap_202 : decode cX8_swap 202 = .ok (.iload 4, 2) := by decide +kernel
theorem dX8_swap_204 : decode cX8_swap 204 = .ok (.goto 4, 3) := by decide +kernel
theorem dX8_swap_207 : decode cX8_swap 207 = .ok (.iload_n 3, 1) := by decide +kernel
theorem dX8_swap_208 : decode cX8_swap 208 = .ok (.ireturn, 1) := by decide +kernel
set_option maxRecDepth 20000 in
theorem ggX8_open_X8_isLong : GoodIn wsX8_open wsX8_isLong := goodIn_r _ [6, 7, 8, 9, 5, 10] (by decide +kernel) (by decide +kernel)
set_option maxRecDepth 20000 in
theorem gX8_open_X8_isLong : GoodIn wsX8_open (va_wsS RX8 177 yX8_isLong wsX8_isLong) := goodIn_app (goodIn_of _ (by decide +kernel)) ggX8_open_X8_isLong
set_option maxRecDepth 20000 in
theorem ggX8_open_X8_in : GoodIn wsX8_open wsX8_in := goodIn_r _ [10] (by decide +kernel) (by decide +kernel)
set_option maxRecDepth 20000 in
theorem gX8_open_X8_in : GoodIn wsX8_open (va_wsS RX8 53 yX8_in wsX8_in) := goodIn_app (goodIn_of _ (by decide +kernel)) ggX8_open_X8_in
set_option maxRecDepth 20000 in
theorem ggX8_open_X8_ticksGo : GoodIn wsX8_open wsX8_ticksGo := goodIn_r _ [14, 15, 16, 17, 18, 5, 19, 1, 20, 21, 22, 23, 24, 25, 26, 27, 28, 29, 30, 31, 32, 33, 34, 35, 36, 37, 38, 39, 2, 40, 41, 42, 43, 44, 45, 46, 47, 48, 49, 50, 51, 52, 53, 54, 55, 56, 57, 58, 59, 60, 61, 62, 63, 64, 65, 66, 67, 68, 69, 70, 71, 72, 73, 74, 75, 76, 77, 78, 79] (by decide +kernel) (by decide +kernel)
set_option maxRecDepth 20000 in
theorem gX8_open_X8_ticksGo : GoodIn wsX8_open (wsV RX8 189 RX8 yX8_ticksGo wsX8_ticksGo) := goodIn_app (goodIn_of _ (by decide +kernel)) ggX8_open_X8_ticksGo
theorem dX8_open_0 : decode cX8_open 0 = .ok (.iload_n 1, 1) := by decide +kernel
theorem dX8_open_1 : decode cX8_open 1 = .ok (.invokestatic 177, 3) := by decide +kernel
theorem dX8_open_4 : decode cX8_open 4 = .ok (.ifCond .eq 13, 3) := by decide +kernel
theorem dX8_open_7 : decode cX8_open 7 = .ok (.iload_n 2, 1) := by decide +kernel
theorem dX8_open_8 : decode cX8_open 8 = .ok (.i2l, 1) := by decide +kernel
theorem dX8_open_9 : decode cX8_open 9 = .ok (.lconst 0, 1) := by decide +kernel
theorem dX8_open_10 : decode cX8_open 10 = .ok (.lconst 1, 1) := by decide +kernel
theorem dX8_open_11 : decode cX8_open 11 = .ok (.invokestatic 53, 3) := by decide +kernel
theorem dX8_open_14 : decode cX8_open 14 = .ok (.ifCond .ne 5, 3) := by decide +kernel
theorem dX8_open_17 : decode cX8_open 17 = .ok (.iconst (-1), 1) := by decide +kernel
theorem dX8_open_18 : decode cX8_open 18 = .ok (.ireturn, 1) := by decide +kernel
theorem dX8_open_19 : decode cX8_open 19 = .ok (.aload_n 0, 1) := by decide +kernel
theorem dX8_open_20 : decode cX8_open 20 = .ok (.iconst 0, 1) := by decide +kernel
theorem dX8_open_21 : decode cX8_open 21 = .ok (.iload_n 1, 1) := by decide +kernel
theorem dX8_open_22 : decode cX8_open 22 = .ok (.invokevirtual 189, 3) := by decide +kernel
theorem dX8_open_25 : decode cX8_open 25 = .ok (.istore_n 3, 1) := by decide +kernel
theorem dX8_open_26 : decode cX8_open 26 = .ok (.bipush (-4), 2) := by decide +kernel
theorem dX8_open_28 : decode cX8_open 28 = .ok (.istore 4, 2) := by decide +kernel
theorem dX8_open_30 : decode cX8_open 30 = .ok (.iconst 0, 1) := by decide +kernel
theorem dX8_open_31 : decode cX8_open 31 = .ok (.istore 5, 2) := by decide +kernel
theorem dX8_open_33 : decode cX8_open 33 = .ok (.iload 5, 2) := by decide +kernel
theorem dX8_open_35 : decode cX8_open 35 = .ok (.aload_n 0, 1) := by decide +kernel
theorem dX8_open_36 : decode cX8_open 36 = .ok (.getfield 7, 3) := by decide +kernel
theorem dX8_open_39 : decode cX8_open 39 = .ok (.bipush 16, 2) := by decide +kernel
theorem dX8_open_41 : decode cX8_open 41 = .ok (.iaload, 1) := by decide +kernel
theorem dX8_open_42 : decode cX8_open 42 = .ok (.if_icmp .ge 57, 3) := by decide +kernel
theorem dX8_open_45 : decode cX8_open 45 = .ok (.aload_n 0, 1) := by decide +kernel
theorem dX8_open_46 : decode cX8_open 46 = .ok (.iload 5, 2) := by decide +kernel
theorem dX8_open_48 : decode cX8_open 48 = .ok (.putfield 25, 3) := by decide +kernel
theorem dX8_open_51 : decode cX8_open 51 = .ok (.aload_n 0, 1) := by decide +kernel
theorem dX8_open_52 : decode cX8_open 52 = .ok (.iconst 0, 1) := by decide +kernel
theorem dX8_open_53 : decode cX8_open 53 = .ok (.iload_n 1, 1) := by decide +kernel
theorem dX8_open_54 : decode cX8_open 54 = .ok (.invokevirtual 189, 3) := by decide +kernel
theorem dX8_open_57 : decode cX8_open 57 = .ok (.istore 6, 2) := by decide +kernel
theorem dX8_open_59 : decode cX8_open 59 = .ok (.aload_n 0, 1) := by decide +kernel
theorem dX8_open_60 : decode cX8_open 60 = .ok (.bipush (-4), 2) := by decide +kernel
theorem dX8_open_62 : decode cX8_open 62 = .ok (.putfield 25, 3) := by decide +kernel
theorem dX8_open_65 : decode cX8_open 65 = .ok (.iload 6, 2) := by decide +kernel
theorem dX8_open_67 : decode cX8_open 67 = .ok (.iload_n 3, 1) := by decide +kernel
theorem dX8_open_68 : decode cX8_open 68 = .ok (.if_icmp .le 8, 3) := by decide +kernel
theorem dX8_open_71 : decode cX8_open 71 = .ok (.iload 5, 2) := by decide +kernel
theorem dX8_open_73 : decode cX8_open 73 = .ok (.goto 5, 3) := by decide +kernel
theorem dX8_open_76 : decode cX8_open 76 = .ok (.iload 4, 2) := by decide +kernel
theorem dX8_open_78 : decode cX8_open 78 = .ok (.istore 4, 2) := by decide +kernel
theorem dX8_open_80 : decode cX8_open 80 = .ok (.iload 6, 2) := by decide +kernel
theorem dX8_open_82 : decode cX8_open 82 = .ok (.iload_n 3, 1) := by decide +kernel
theorem dX8_open_83 : decode cX8_open 83 = .ok (.if_icmp .le 8, 3) := by decide +kernel
theorem dX8_open_86 : decode cX8_open 86 = .ok (.iload 6, 2) := by decide +kernel
theorem dX8_open_88 : decode cX8_open 88 = .ok (.goto 4, 3) := by decide +kernel
theorem dX8_open_91 : decode cX8_open 91 = .ok (.iload_n 3, 1) := by decide +kernel
theorem dX8_open_92 : decode cX8_open 92 = .ok (.istore_n 3, 1) := by decide +kernel
theorem dX8_open_93 : decode cX8_open 93 = .ok (.iinc 5 1, 3) := by decide +kernel
theorem dX8_open_96 : decode cX8_open 96 = .ok (.goto (-63), 3) := by decide +kernel
theorem dX8_open_99 : decode cX8_open 99 = .ok (.iload 4, 2) := by decide +kernel
theorem dX8_open_101 : decode cX8_open 101 = .ok (.bipush (-4), 2) := by decide +kernel
theorem dX8_open_103 : decode cX8_open 103 = .ok (.if_icmp .eq 7, 3) := by decide +kernel
theorem dX8_open_106 : decode cX8_open 106 = .ok (.iload_n 2, 1) := by decide +kernel
theorem dX8_open_107 : decode cX8_open 107 = .ok (.ifCond .ne 8, 3) := by decide +kernel
theorem dX8_open_110 : decode cX8_open 110 = .ok (.iload 4, 2) := by decide +kernel
theorem dX8_open_112 : decode cX8_open 112 = .ok (.goto 4, 3) := by decide +kernel
theorem dX8_open_115 : decode cX8_open 115 = .ok (.iload_n 3, 1) := by decide +kernel
theorem dX8_open_116 : decode cX8_open 116 = .ok (.ireturn, 1) := by decide +kernel
set_option maxRecDepth 20000 in
theorem ggX8_mostAt_X8_copies : GoodIn wsX8_mostAt wsX8_copies := goodIn_r _ [6, 1, 46, 47, 48, 49, 50, 51, 52, 53, 54, 55, 56, 57, 58, 59, 60, 61, 62, 63, 64, 65, 66, 67, 68, 69, 70, 71, 72] (by decide +kernel) (by decide +kernel)
set_option maxRecDepth 20000 in
theorem gX8_mostAt_X8_copies : GoodIn wsX8_mostAt (wsV RX8 186 RX8 yX8_copies wsX8_copies) := goodIn_app (goodIn_of _ (by decide +kernel)) ggX8_mostAt_X8_copies
set_option maxRecDepth 20000 in
theorem ggX8_mostAt_X8_ticksGo : GoodIn wsX8_mostAt wsX8_ticksGo := goodIn_r _ [10, 11, 2, 3, 4, 5, 6, 1, 12, 13, 14, 15, 16, 17, 18, 19, 20, 21, 22, 23, 24, 25, 26, 27, 28, 29, 30, 31, 32, 33, 34, 35, 36, 37, 38, 39, 40, 41, 42, 43, 44, 45, 46, 47, 48, 49, 50, 51, 52, 53, 54, 55, 56, 57, 58, 59, 60, 61, 62, 63, 64, 65, 66, 67, 68, 69, 70, 71, 72] (by decide +kernel) (by decide +kernel)
set_option maxRecDepth 20000 in
theorem gX8_mostAt_X8_ticksGo : GoodIn wsX8_mostAt (wsV RX8 189 RX8 yX8_ticksGo wsX8_ticksGo) := goodIn_app (goodIn_of _ (by decide +kernel)) ggX8_mostAt_X8_ticksGo
theorem dX8_mostAt_0 : decode cX8_mostAt 0 = .ok (.iconst (-1), 1) := by decide +kernel
theorem dX8_mostAt_1 : decode cX8_mostAt 1 = .ok (.istore 5, 2) := by decide +kernel
theorem dX8_mostAt_3 : decode cX8_mostAt 3 = .ok (.iconst 0, 1) := by decide +kernel
theorem dX8_mostAt_4 : decode cX8_mostAt 4 = .ok (.istore 6, 2) := by decide +kernel
theorem dX8_mostAt_6 : decode cX8_mostAt 6 = .ok (.aload_n 0, 1) := by decide +kernel
theorem dX8_mostAt_7 : decode cX8_mostAt 7 = .ok (.iconst 0, 1) := by decide +kernel
theorem dX8_mostAt_8 : decode cX8_mostAt 8 = .ok (.sipush 225, 3) := by decide +kernel
theorem dX8_mostAt_11 : decode cX8_mostAt 11 = .ok (.invokevirtual 186, 3) := by decide +kernel
theorem dX8_mostAt_14 : decode cX8_mostAt 14 = .ok (.iconst 0, 1) := by decide +kernel
theorem dX8_mostAt_15 : decode cX8_mostAt 15 = .ok (.istore 7, 2) := by decide +kernel
theorem dX8_mostAt_17 : decode cX8_mostAt 17 = .ok (.iload 7, 2) := by decide +kernel
theorem dX8_mostAt_19 : decode cX8_mostAt 19 = .ok (.iload_n 2, 1) := by decide +kernel
theorem dX8_mostAt_20 : decode cX8_mostAt 20 = .ok (.if_icmp .ge 63, 3) := by decide +kernel
theorem dX8_mostAt_23 : decode cX8_mostAt 23 = .ok (.aload_n 0, 1) := by decide +kernel
theorem dX8_mostAt_24 : decode cX8_mostAt 24 = .ok (.getfield 7, 3) := by decide +kernel
theorem dX8_mostAt_27 : decode cX8_mostAt 27 = .ok (.sipush 225, 3) := by decide +kernel
theorem dX8_mostAt_30 : decode cX8_mostAt 30 = .ok (.iload_n 1, 1) := by decide +kernel
theorem dX8_mostAt_31 : decode cX8_mostAt 31 = .ok (.iadd, 1) := by decide +kernel
theorem dX8_mostAt_32 : decode cX8_mostAt 32 = .ok (.iload 7, 2) := by decide +kernel
theorem dX8_mostAt_34 : decode cX8_mostAt 34 = .ok (.iastore, 1) := by decide +kernel
theorem dX8_mostAt_35 : decode cX8_mostAt 35 = .ok (.aload_n 0, 1) := by decide +kernel
theorem dX8_mostAt_36 : decode cX8_mostAt 36 = .ok (.sipush 225, 3) := by decide +kernel
theorem dX8_mostAt_39 : decode cX8_mostAt 39 = .ok (.iload_n 3, 1) := by decide +kernel
theorem dX8_mostAt_40 : decode cX8_mostAt 40 = .ok (.invokevirtual 189, 3) := by decide +kernel
theorem dX8_mostAt_43 : decode cX8_mostAt 43 = .ok (.istore 8, 2) := by decide +kernel
theorem dX8_mostAt_45 : decode cX8_mostAt 45 = .ok (.iload 8, 2) := by decide +kernel
theorem dX8_mostAt_47 : decode cX8_mostAt 47 = .ok (.iload 5, 2) := by decide +kernel
theorem dX8_mostAt_49 : decode cX8_mostAt 49 = .ok (.if_icmp .le 8, 3) := by decide +kernel
theorem dX8_mostAt_52 : decode cX8_mostAt 52 = .ok (.iload 7, 2) := by decide +kernel
theorem dX8_mostAt_54 : decode cX8_mostAt 54 = .ok (.goto 5, 3) := by decide +kernel
theorem dX8_mostAt_57 : decode cX8_mostAt 57 = .ok (.iload 6, 2) := by decide +kernel
theorem dX8_mostAt_59 : decode cX8_mostAt 59 = .ok (.istore 6, 2) := by decide +kernel
theorem dX8_mostAt_61 : decode cX8_mostAt 61 = .ok (.iload 8, 2) := by decide +kernel
theorem dX8_mostAt_63 : decode cX8_mostAt 63 = .ok (.iload 5, 2) := by decide +kernel
theorem dX8_mostAt_65 : decode cX8_mostAt 65 = .ok (.if_icmp .le 8, 3) := by decide +kernel
theorem dX8_mostAt_68 : decode cX8_mostAt 68 = .ok (.iload 8, 2) := by decide +kernel
theorem dX8_mostAt_70 : decode cX8_mostAt 70 = .ok (.goto 5, 3) := by decide +kernel
theorem dX8_mostAt_73 : decode cX8_mostAt 73 = .ok (.iload 5, 2) := by decide +kernel
theorem dX8_mostAt_75 : decode cX8_mostAt 75 = .ok (.istore 5, 2) := by decide +kernel
theorem dX8_mostAt_77 : decode cX8_mostAt 77 = .ok (.iinc 7 1, 3) := by decide +kernel
theorem dX8_mostAt_80 : decode cX8_mostAt 80 = .ok (.goto (-63), 3) := by decide +kernel
theorem dX8_mostAt_83 : decode cX8_mostAt 83 = .ok (.iload 4, 2) := by decide +kernel
theorem dX8_mostAt_85 : decode cX8_mostAt 85 = .ok (.ifCond .ne 8, 3) := by decide +kernel
theorem dX8_mostAt_88 : decode cX8_mostAt 88 = .ok (.iload 6, 2) := by decide +kernel
theorem dX8_mostAt_90 : decode cX8_mostAt 90 = .ok (.goto 5, 3) := by decide +kernel
theorem dX8_mostAt_93 : decode cX8_mostAt 93 = .ok (.iload 5, 2) := by decide +kernel
theorem dX8_mostAt_95 : decode cX8_mostAt 95 = .ok (.ireturn, 1) := by decide +kernel
set_option maxRecDepth 20000 in
theorem ggX8_kind_X8_isDoor : GoodIn wsX8_kind wsX8_isDoor := goodIn_r _ [5, 6, 7, 8, 4, 9, 61, 62, 63, 64, 65, 66, 67, 68, 69, 70, 71, 72, 73, 74, 75, 76, 77, 78, 79, 80, 81, 82, 83, 84, 85, 86, 87] (by decide +kernel) (by decide +kernel)
set_option maxRecDepth 20000 in
theorem gX8_kind_X8_isDoor : GoodIn wsX8_kind (wsV RX8 150 RX8 yX8_isDoor wsX8_isDoor) := goodIn_app (goodIn_of _ (by decide +kernel)) ggX8_kind_X8_isDoor
set_option maxRecDepth 20000 in
theorem ggX8_kind_X8_isLong : GoodIn wsX8_kind wsX8_isLong := goodIn_r _ [12, 13, 7, 8, 4, 9] (by decide +kernel) (by decide +kernel)
set_option maxRecDepth 20000 in
theorem gX8_kind_X8_isLong : GoodIn wsX8_kind (va_wsS RX8 177 yX8_isLong wsX8_isLong) := goodIn_app (goodIn_of _ (by decide +kernel)) ggX8_kind_X8_isLong
set_option maxRecDepth 20000 in
theorem ggX8_kind_X8_in : GoodIn wsX8_kind wsX8_in := goodIn_r _ [9] (by decide +kernel) (by decide +kernel)
set_option maxRecDepth 20000 in
theorem gX8_kind_X8_in : GoodIn wsX8_kind (va_wsS RX8 53 yX8_in wsX8_in) := goodIn_app (goodIn_of _ (by decide +kernel)) ggX8_kind_X8_in
set_option maxRecDepth 20000 in
theorem ggX8_kind_X8_mostAt : GoodIn wsX8_kind wsX8_mostAt := goodIn_r _ [17, 6, 18, 19, 20, 4, 21, 22, 23, 24, 25, 26, 27, 28, 29, 30, 31, 32, 33, 34, 35, 36, 37, 38, 39, 40, 41, 42, 43, 44, 45, 46, 47, 48, 49, 50, 51, 52, 53, 54, 55, 56, 57, 58, 59, 60, 61, 62, 63, 64, 65, 66, 67, 68, 69, 70, 71, 72, 73, 74, 75, 76, 77, 78, 79, 80, 81, 82, 83, 84, 85, 86, 87] (by decide +kernel) (by decide +kernel)
set_option maxRecDepth 20000 in
theorem gX8_kind_X8_mostAt : GoodIn wsX8_kind (wsV RX8 195 RX8 yX8_mostAt wsX8_mostAt) := goodIn_app (goodIn_of _ (by decide +kernel)) ggX8_kind_X8_mostAt
theorem dX8_kind_0 : decode cX8_kind 0 = .ok (.aload_n 0, 1) := by decide +kernel
theorem dX8_kind_1 : decode cX8_kind 1 = .ok (.iload_n 1, 1) := by decide +kernel
theorem dX8_kind_2 : decode cX8_kind 2 = .ok (.invokevirtual 150, 3) := by decide +kernel
theorem dX8_kind_5 : decode cX8_kind 5 = .ok (.ifCond .eq 31, 3) := by decide +kernel
theorem dX8_kind_8 : decode cX8_kind 8 = .ok (.iload_n 2, 1) := by decide +kernel
theorem dX8_kind_9 : decode cX8_kind 9 = .ok (.invokestatic 177, 3) := by decide +kernel
theorem dX8_kind_12 : decode cX8_kind 12 = .ok (.ifCond .eq 24, 3) := by decide +kernel
theorem dX8_kind_15 : decode cX8_kind 15 = .ok (.iload_n 3, 1) := by decide +kernel
theorem dX8_kind_16 : decode cX8_kind 16 = .ok (.i2l, 1) := by decide +kernel
theorem dX8_kind_17 : decode cX8_kind 17 = .ok (.lconst 0, 1) := by decide +kernel
theorem dX8_kind_18 : decode cX8_kind 18 = .ok (.lconst 1, 1) := by decide +kernel
theorem dX8_kind_19 : decode cX8_kind 19 = .ok (.invokestatic 53, 3) := by decide +kernel
theorem dX8_kind_22 : decode cX8_kind 22 = .ok (.ifCond .eq 14, 3) := by decide +kernel
theorem dX8_kind_25 : decode cX8_kind 25 = .ok (.aload_n 0, 1) := by decide +kernel
theorem dX8_kind_26 : decode cX8_kind 26 = .ok (.iload_n 1, 1) := by decide +kernel
theorem dX8_kind_27 : decode cX8_kind 27 = .ok (.iconst 4, 1) := by decide +kernel
theorem dX8_kind_28 : decode cX8_kind 28 = .ok (.iload_n 2, 1) := by decide +kernel
theorem dX8_kind_29 : decode cX8_kind 29 = .ok (.iload_n 3, 1) := by decide +kernel
theorem dX8_kind_30 : decode cX8_kind 30 = .ok (.invokevirtual 195, 3) := by decide +kernel
theorem dX8_kind_33 : decode cX8_kind 33 = .ok (.goto 4, 3) := by decide +kernel
theorem dX8_kind_36 : decode cX8_kind 36 = .ok (.iconst (-1), 1) := by decide +kernel
theorem dX8_kind_37 : decode cX8_kind 37 = .ok (.ireturn, 1) := by decide +kernel
set_option maxRecDepth 20000 in
theorem ggX8_fill_X8_isDoor : GoodIn wsX8_fill wsX8_isDoor := goodIn_r _ [6, 1, 7, 8, 5, 9, 61, 62, 63, 64, 65, 66, 67, 68, 69, 70, 71, 72, 73, 74, 75, 76, 77, 78, 79, 80, 81, 82, 83, 84, 85, 86, 87] (by decide +kernel) (by decide +kernel)
set_option maxRecDepth 20000 in
theorem gX8_fill_X8_isDoor : GoodIn wsX8_fill (wsV RX8 150 RX8 yX8_isDoor wsX8_isDoor) := goodIn_app (goodIn_of _ (by decide +kernel)) ggX8_fill_X8_isDoor
set_option maxRecDepth 20000 in
theorem ggX8_fill_X8_isLong : GoodIn wsX8_fill wsX8_isLong := goodIn_r _ [12, 13, 7, 8, 5, 9] (by decide +kernel) (by decide +kernel)
set_option maxRecDepth 20000 in
theorem gX8_fill_X8_isLong : GoodIn wsX8_fill (va_wsS RX8 177 yX8_isLong wsX8_isLong) := goodIn_app (goodIn_of _ (by decide +kernel)) ggX8_fill_X8_isLong
set_option maxRecDepth 20000 in
theorem ggX8_fill_X8_in : GoodIn wsX8_fill wsX8_in := goodIn_r _ [9] (by decide +kernel) (by decide +kernel)
set_option maxRecDepth 20000 in
theorem gX8_fill_X8_in : GoodIn wsX8_fill (va_wsS RX8 53 yX8_in wsX8_in) := goodIn_app (goodIn_of _ (by decide +kernel)) ggX8_fill_X8_in
set_option maxRecDepth 20000 in
theorem ggX8_fill_X8_mostAt : GoodIn wsX8_fill wsX8_mostAt := goodIn_r _ [17, 1, 18, 19, 20, 5, 21, 22, 23, 24, 25, 26, 27, 28, 29, 30, 31, 32, 33, 34, 35, 36, 37, 38, 39, 40, 41, 42, 43, 44, 45, 46, 47, 48, 49, 50, 51, 52, 53, 54, 55, 56, 57, 58, 59, 60, 61, 62, 63, 64, 65, 66, 67, 68, 69, 70, 71, 72, 73, 74, 75, 76, 77, 78, 79, 80, 81, 82, 83, 84, 85, 86, 87] (by decide +kernel) (by decide +kernel)
set_option maxRecDepth 20000 in
theorem gX8_fill_X8_mostAt : GoodIn wsX8_fill (wsV RX8 195 RX8 yX8_mostAt wsX8_mostAt) := goodIn_app (goodIn_of _ (by decide +kernel)) ggX8_fill_X8_mostAt
theorem dX8_fill_0 : decode cX8_fill 0 = .ok (.aload_n 0, 1) := by decide +kernel
theorem dX8_fill_1 : decode cX8_fill 1 = .ok (.iload_n 1, 1) := by decide +kernel
theorem dX8_fill_2 : decode cX8_fill 2 = .ok (.invokevirtual 150, 3) := by decide +kernel
theorem dX8_fill_5 : decode cX8_fill 5 = .ok (.ifCond .eq 43, 3) := by decide +kernel
theorem dX8_fill_8 : decode cX8_fill 8 = .ok (.iload_n 2, 1) := by decide +kernel
theorem dX8_fill_9 : decode cX8_fill 9 = .ok (.invokestatic 177, 3) := by decide +kernel
theorem dX8_fill_12 : decode cX8_fill 12 = .ok (.ifCond .eq 36, 3) := by decide +kernel
theorem dX8_fill_15 : decode cX8_fill 15 = .ok (.iload_n 3, 1) := by decide +kernel
theorem dX8_fill_16 : decode cX8_fill 16 = .ok (.i2l, 1) := by decide +kernel
theorem dX8_fill_17 : decode cX8_fill 17 = .ok (.lconst 0, 1) := by decide +kernel
theorem dX8_fill_18 : decode cX8_fill 18 = .ok (.lconst 1, 1) := by decide +kernel
theorem dX8_fill_19 : decode cX8_fill 19 = .ok (.invokestatic 53, 3) := by decide +kernel
theorem dX8_fill_22 : decode cX8_fill 22 = .ok (.ifCond .eq 26, 3) := by decide +kernel
theorem dX8_fill_25 : decode cX8_fill 25 = .ok (.aload_n 0, 1) := by decide +kernel
theorem dX8_fill_26 : decode cX8_fill 26 = .ok (.bipush 12, 2) := by decide +kernel
theorem dX8_fill_28 : decode cX8_fill 28 = .ok (.iload_n 1, 1) := by decide +kernel
theorem dX8_fill_29 : decode cX8_fill 29 = .ok (.iadd, 1) := by decide +kernel
theorem dX8_fill_30 : decode cX8_fill 30 = .ok (.aload_n 0, 1) := by decide +kernel
theorem dX8_fill_31 : decode cX8_fill 31 = .ok (.getfield 7, 3) := by decide +kernel
theorem dX8_fill_34 : decode cX8_fill 34 = .ok (.iconst 4, 1) := by decide +kernel
theorem dX8_fill_35 : decode cX8_fill 35 = .ok (.iload_n 1, 1) := by decide +kernel
theorem dX8_fill_36 : decode cX8_fill 36 = .ok (.iadd, 1) := by decide +kernel
theorem dX8_fill_37 : decode cX8_fill 37 = .ok (.iaload, 1) := by decide +kernel
theorem dX8_fill_38 : decode cX8_fill 38 = .ok (.iconst 1, 1) := by decide +kernel
theorem dX8_fill_39 : decode cX8_fill 39 = .ok (.iadd, 1) := by decide +kernel
theorem dX8_fill_40 : decode cX8_fill 40 = .ok (.iload_n 2, 1) := by decide +kernel
theorem dX8_fill_41 : decode cX8_fill 41 = .ok (.iload_n 3, 1) := by decide +kernel
theorem dX8_fill_42 : decode cX8_fill 42 = .ok (.invokevirtual 195, 3) := by decide +kernel
theorem dX8_fill_45 : decode cX8_fill 45 = .ok (.goto 4, 3) := by decide +kernel
theorem dX8_fill_48 : decode cX8_fill 48 = .ok (.iconst (-1), 1) := by decide +kernel
theorem dX8_fill_49 : decode cX8_fill 49 = .ok (.ireturn, 1) := by decide +kernel
theorem dX8_lowest_0 : decode cX8_lowest 0 = .ok (.lload_n 0, 1) := by decide +kernel
theorem dX8_lowest_1 : decode cX8_lowest 1 = .ok (.lstore 5, 2) := by decide +kernel
theorem dX8_lowest_3 : decode cX8_lowest 3 = .ok (.lload_n 2, 1) := by decide +kernel
theorem dX8_lowest_4 : decode cX8_lowest 4 = .ok (.lstore 7, 2) := by decide +kernel
theorem dX8_lowest_6 : decode cX8_lowest 6 = .ok (.lload 7, 2) := by decide +kernel
theorem dX8_lowest_8 : decode cX8_lowest 8 = .ok (.lconst 0, 1) := by decide +kernel
theorem dX8_lowest_9 : decode cX8_lowest 9 = .ok (.lcmp, 1) := by decide +kernel
theorem dX8_lowest_10 : decode cX8_lowest 10 = .ok (.ifCond .eq 21, 3) := by decide +kernel
theorem dX8_lowest_13 : decode cX8_lowest 13 = .ok (.lload 5, 2) := by decide +kernel
theorem dX8_lowest_15 : decode cX8_lowest 15 = .ok (.lload 7, 2) := by decide +kernel
theorem dX8_lowest_17 : decode cX8_lowest 17 = .ok (.lrem, 1) := by decide +kernel
theorem dX8_lowest_18 : decode cX8_lowest 18 = .ok (.lstore 9, 2) := by decide +kernel
theorem dX8_lowest_20 : decode cX8_lowest 20 = .ok (.lload 7, 2) := by decide +kernel
theorem dX8_lowest_22 : decode cX8_lowest 22 = .ok (.lstore 5, 2) := by decide +kernel
theorem dX8_lowest_24 : decode cX8_lowest 24 = .ok (.lload 9, 2) := by decide +kernel
theorem dX8_lowest_26 : decode cX8_lowest 26 = .ok (.lstore 7, 2) := by decide +kernel
theorem dX8_lowest_28 : decode cX8_lowest 28 = .ok (.goto (-22), 3) := by decide +kernel
theorem dX8_lowest_31 : decode cX8_lowest 31 = .ok (.iload 4, 2) := by decide +kernel
theorem dX8_lowest_33 : decode cX8_lowest 33 = .ok (.ifCond .ne 7, 3) := by decide +kernel
theorem dX8_lowest_36 : decode cX8_lowest 36 = .ok (.lload_n 0, 1) := by decide +kernel
theorem dX8_lowest_37 : decode cX8_lowest 37 = .ok (.goto 4, 3) := by decide +kernel
theorem dX8_lowest_40 : decode cX8_lowest 40 = .ok (.lload_n 2, 1) := by decide +kernel
theorem dX8_lowest_41 : decode cX8_lowest 41 = .ok (.lload 5, 2) := by decide +kernel
theorem dX8_lowest_43 : decode cX8_lowest 43 = .ok (.ldiv, 1) := by decide +kernel
theorem dX8_lowest_44 : decode cX8_lowest 44 = .ok (.lreturn, 1) := by decide +kernel
set_option maxRecDepth 20000 in
theorem ggX8_byNobody_X8_copies : GoodIn wsX8_byNobody wsX8_copies := goodIn_r _ [8, 9, 42, 43, 44, 45, 46, 47, 48, 49, 50, 51, 52, 53, 54, 55, 56, 57, 58, 59, 60, 61, 62, 63, 64, 65, 66, 67, 68] (by decide +kernel) (by decide +kernel)
set_option maxRecDepth 20000 in
theorem gX8_byNobody_X8_copies : GoodIn wsX8_byNobody (wsV RX8 186 RX8 yX8_copies wsX8_copies) := goodIn_app (goodIn_of _ (by decide +kernel)) ggX8_byNobody_X8_copies
set_option maxRecDepth 20000 in
theorem ggX8_byNobody_X8_starts : GoodIn wsX8_byNobody wsX8_starts := goodIn_r _ [13, 2, 3, 14, 15, 16, 42, 43, 44, 45, 46, 47, 48, 49, 50, 51, 52, 53, 54, 55, 56, 57, 58, 59, 60, 61, 62, 63, 64, 65, 66, 67, 68] (by decide +kernel) (by decide +kernel)
set_option maxRecDepth 20000 in
theorem gX8_byNobody_X8_starts : GoodIn wsX8_byNobody (wsV RX8 180 RX8 yX8_starts wsX8_starts) := goodIn_app (goodIn_of _ (by decide +kernel)) ggX8_byNobody_X8_starts
set_option maxRecDepth 20000 in
theorem ggX8_byNobody_X8_comeOn : GoodIn wsX8_byNobody wsX8_comeOn := goodIn_r _ [20, 9, 42, 43, 44, 45, 46, 47, 48, 49, 50, 51, 52, 53, 54, 55, 56, 57, 58, 59, 60, 61, 62, 63, 64, 65, 66, 67, 68] (by decide +kernel) (by decide +kernel)
set_option maxRecDepth 20000 in
theorem gX8_byNobody_X8_comeOn : GoodIn wsX8_byNobody (wsV RX8 144 RX8 yX8_comeOn wsX8_comeOn) := goodIn_app (goodIn_of _ (by decide +kernel)) ggX8_byNobody_X8_comeOn
set_option maxRecDepth 20000 in
theorem ggX8_byNobody_X8_tickOn : GoodIn wsX8_byNobody wsX8_tickOn := goodIn_r _ [24, 2, 3, 9, 25, 14, 15, 26, 27, 28, 7, 29, 16, 30, 31, 32, 33, 34, 35, 36, 37, 38, 42, 43, 44, 45, 46, 47, 48, 49, 50, 51, 52, 53, 54, 55, 56, 57, 58, 59, 60, 61, 62, 63, 64, 65, 66, 67, 68] (by decide +kernel) (by decide +kernel)
set_option maxRecDepth 20000 in
theorem gX8_byNobody_X8_tickOn : GoodIn wsX8_byNobody (wsV RX8 147 RX8 yX8_tickOn wsX8_tickOn) := goodIn_app (goodIn_of _ (by decide +kernel)) ggX8_byNobody_X8_tickOn
set_option maxRecDepth 20000 in
theorem ggX8_byNobody_X8_lowest : GoodIn wsX8_byNobody wsX8_lowest := goodIn_r _ [41] (by decide +kernel) (by decide +kernel)
set_option maxRecDepth 20000 in
theorem gX8_byNobody_X8_lowest : GoodIn wsX8_byNobody (va_wsS RX8 201 yX8_lowest wsX8_lowest) := goodIn_app (goodIn_of _ (by decide +kernel)) ggX8_byNobody_X8_lowest
theorem dX8_byNobody_0 : decode cX8_byNobody 0 = .ok (.lconst 0, 1) := by decide +kernel
theorem dX8_byNobody_1 : decode cX8_byNobody 1 = .ok (.lstore 5, 2) := by decide +kernel
theorem dX8_byNobody_3 : decode cX8_byNobody 3 = .ok (.lconst 1, 1) := by decide +kernel
theorem dX8_byNobody_4 : decode cX8_byNobody 4 = .ok (.lstore 7, 2) := by decide +kernel
theorem dX8_byNobody_6 : decode cX8_byNobody 6 = .ok (.iconst 0, 1) := by decide +kernel
theorem dX8_byNobody_7 : decode cX8_byNobody 7 = .ok (.istore 9, 2) := by decide +kernel
theorem dX8_byNobody_9 : decode cX8_byNobody 9 = .ok (.iload 9, 2) := by decide +kernel
theorem dX8_byNobody_11 : decode cX8_byNobody 11 = .ok (.iload_n 2, 1) := by decide +kernel
theorem dX8_byNobody_12 : decode cX8_byNobody 12 = .ok (.if_icmp .ge 17, 3) := by decide +kernel
theorem dX8_byNobody_15 : decode cX8_byNobody 15 = .ok (.lload 7, 2) := by decide +kernel
theorem dX8_byNobody_17 : decode cX8_byNobody 17 = .ok (.ldc2_w 199, 3) := by decide +kernel
theorem dX8_byNobody_20 : decode cX8_byNobody 20 = .ok (.lmul, 1) := by decide +kernel
theorem dX8_byNobody_21 : decode cX8_byNobody 21 = .ok (.lstore 7, 2) := by decide +kernel
theorem dX8_byNobody_23 : decode cX8_byNobody 23 = .ok (.iinc 9 1, 3) := by decide +kernel
theorem dX8_byNobody_26 : decode cX8_byNobody 26 = .ok (.goto (-17), 3) := by decide +kernel
theorem dX8_byNobody_29 : decode cX8_byNobody 29 = .ok (.iconst 0, 1) := by decide +kernel
theorem dX8_byNobody_30 : decode cX8_byNobody 30 = .ok (.istore 9, 2) := by decide +kernel
theorem dX8_byNobody_32 : decode cX8_byNobody 32 = .ok (.iload 9, 2) := by decide +kernel
theorem dX8_byNobody_34 : decode cX8_byNobody 34 = .ok (.iconst 1, 1) := by decide +kernel
theorem dX8_byNobody_35 : decode cX8_byNobody 35 = .ok (.iload_n 2, 1) := by decide +kernel
theorem dX8_byNobody_36 : decode cX8_byNobody 36 = .ok (.ishl, 1) := by decide +kernel
theorem dX8_byNobody_37 : decode cX8_byNobody 37 = .ok (.if_icmp .ge 133, 3) := by decide +kernel
theorem dX8_byNobody_40 : decode cX8_byNobody 40 = .ok (.lconst 1, 1) := by decide +kernel
theorem dX8_byNobody_41 : decode cX8_byNobody 41 = .ok (.lstore 10, 2) := by decide +kernel
theorem dX8_byNobody_43 : decode cX8_byNobody 43 = .ok (.aload_n 0, 1) := by decide +kernel
theorem dX8_byNobody_44 : decode cX8_byNobody 44 = .ok (.iconst 0, 1) := by decide +kernel
theorem dX8_byNobody_45 : decode cX8_byNobody 45 = .ok (.sipush 180, 3) := by decide +kernel
theorem dX8_byNobody_48 : decode cX8_byNobody 48 = .ok (.invokevirtual 186, 3) := by decide +kernel
theorem dX8_byNobody_51 : decode cX8_byNobody 51 = .ok (.aload_n 0, 1) := by decide +kernel
theorem dX8_byNobody_52 : decode cX8_byNobody 52 = .ok (.invokevirtual 180, 3) := by decide +kernel
theorem dX8_byNobody_55 : decode cX8_byNobody 55 = .ok (.iconst 0, 1) := by decide +kernel
theorem dX8_byNobody_56 : decode cX8_byNobody 56 = .ok (.istore 12, 2) := by decide +kernel
theorem dX8_byNobody_58 : decode cX8_byNobody 58 = .ok (.iload 12, 2) := by decide +kernel
theorem dX8_byNobody_60 : decode cX8_byNobody 60 = .ok (.iload_n 2, 1) := by decide +kernel
theorem dX8_byNobody_61 : decode cX8_byNobody 61 = .ok (.if_icmp .ge 71, 3) := by decide +kernel
theorem dX8_byNobody_64 : decode cX8_byNobody 64 = .ok (.iload 9, 2) := by decide +kernel
theorem dX8_byNobody_66 : decode cX8_byNobody 66 = .ok (.iload 12, 2) := by decide +kernel
theorem dX8_byNobody_68 : decode cX8_byNobody 68 = .ok (.ishr, 1) := by decide +kernel
theorem dX8_byNobody_69 : decode cX8_byNobody 69 = .ok (.iconst 1, 1) := by decide +kernel
theorem dX8_byNobody_70 : decode cX8_byNobody 70 = .ok (.iand, 1) := by decide +kernel
theorem dX8_byNobody_71 : decode cX8_byNobody 71 = .ok (.iconst 1, 1) := by decide +kernel
theorem dX8_byNobody_72 : decode cX8_byNobody 72 = .ok (.if_icmp .ne 7, 3) := by decide +kernel
theorem dX8_byNobody_75 : decode cX8_byNobody 75 = .ok (.iconst 1, 1) := by decide +kernel
theorem dX8_byNobody_76 : decode cX8_byNobody 76 = .ok (.goto 4, 3) := by decide +kernel
theorem dX8_byNobody_79 : decode cX8_byNobody 79 = .ok (.iconst 0, 1) := by decide +kernel
theorem dX8_byNobody_80 : decode cX8_byNobody 80 = .ok (.istore 13, 2) := by decide +kernel
theorem dX8_byNobody_82 : decode cX8_byNobody 82 = .ok (.lload 10, 2) := by decide +kernel
theorem dX8_byNobody_84 : decode cX8_byNobody 84 = .ok (.iload 13, 2) := by decide +kernel
theorem dX8_byNobody_86 : decode cX8_byNobody 86 = .ok (.ifCond .eq 8, 3) := by decide +kernel
theorem dX8_byNobody_89 : decode cX8_byNobody 89 = .ok (.iload_n 1, 1) := by decide +kernel
theorem dX8_byNobody_90 : decode cX8_byNobody 90 = .ok (.i2l, 1) := by decide +kernel
theorem dX8_byNobody_91 : decode cX8_byNobody 91 = .ok (.goto 8, 3) := by decide +kernel
theorem dX8_byNobody_94 : decode cX8_byNobody 94 = .ok (.bipush 10, 2) := by decide +kernel
theorem dX8_byNobody_96 : decode cX8_byNobody 96 = .ok (.iload_n 1, 1) := by decide +kernel
theorem dX8_byNobody_97 : decode cX8_byNobody 97 = .ok (.isub, 1) := by decide +kernel
theorem dX8_byNobody_98 : decode cX8_byNobody 98 = .ok (.i2l, 1) := by decide +kernel
theorem dX8_byNobody_99 : decode cX8_byNobody 99 = .ok (.lmul, 1) := by decide +kernel
theorem dX8_byNobody_100 : decode cX8_byNobody 100 = .ok (.lstore 10, 2) := by decide +kernel
theorem dX8_byNobody_102 : decode cX8_byNobody 102 = .ok (.aload_n 0, 1) := by decide +kernel
theorem dX8_byNobody_103 : decode cX8_byNobody 103 = .ok (.sipush 180, 3) := by decide +kernel
theorem dX8_byNobody_106 : decode cX8_byNobody 106 = .ok (.iload 13, 2) := by decide +kernel
theorem dX8_byNobody_108 : decode cX8_byNobody 108 = .ok (.ifCond .eq 7, 3) := by decide +kernel
theorem dX8_byNobody_111 : decode cX8_byNobody 111 = .ok (.iconst 0, 1) := by decide +kernel
theorem dX8_byNobody_112 : decode cX8_byNobody 112 = .ok (.goto 10, 3) := by decide +kernel
theorem dX8_byNobody_115 : decode cX8_byNobody 115 = .ok (.aload_n 0, 1) := by decide +kernel
theorem dX8_byNobody_116 : decode cX8_byNobody 116 = .ok (.sipush 180, 3) := by decide +kernel
theorem dX8_byNobody_119 : decode cX8_byNobody 119 = .ok (.invokevirtual 144, 3) := by decide +kernel
theorem dX8_byNobody_122 : decode cX8_byNobody 122 = .ok (.invokevirtual 147, 3) := by decide +kernel
theorem dX8_byNobody_125 : decode cX8_byNobody 125 = .ok (.pop, 1) := by decide +kernel
theorem dX8_byNobody_126 : decode cX8_byNobody 126 = .ok (.iinc 12 1, 3) := by decide +kernel
theorem dX8_byNobody_129 : decode cX8_byNobody 129 = .ok (.goto (-71), 3) := by decide +kernel
theorem dX8_byNobody_132 : decode cX8_byNobody 132 = .ok (.lload 5, 2) := by decide +kernel
theorem dX8_byNobody_134 : decode cX8_byNobody 134 = .ok (.lload 10, 2) := by decide +kernel
theorem dX8_byNobody_136 : decode cX8_byNobody 136 = .ok (.iload_n 3, 1) := by decide +kernel
theorem dX8_byNobody_137 : decode cX8_byNobody 137 = .ok (.ifCond .eq 10, 3) := by decide +kernel
theorem dX8_byNobody_140 : decode cX8_byNobody 140 = .ok (.aload_n 0, 1) := by decide +kernel
theorem dX8_byNobody_141 : decode cX8_byNobody 141 = .ok (.getfield 121, 3) := by decide +kernel
theorem dX8_byNobody_144 : decode cX8_byNobody 144 = .ok (.goto 15, 3) := by decide +kernel
theorem dX8_byNobody_147 : decode cX8_byNobody 147 = .ok (.aload_n 0, 1) := by decide +kernel
theorem dX8_byNobody_148 : decode cX8_byNobody 148 = .ok (.getfield 124, 3) := by decide +kernel
theorem dX8_byNobody_151 : decode cX8_byNobody 151 = .ok (.ifCond .ne 7, 3) := by decide +kernel
theorem dX8_byNobody_154 : decode cX8_byNobody 154 = .ok (.iconst 1, 1) := by decide +kernel
theorem dX8_byNobody_155 : decode cX8_byNobody 155 = .ok (.goto 4, 3) := by decide +kernel
theorem dX8_byNobody_158 : decode cX8_byNobody 158 = .ok (.iconst 0, 1) := by decide +kernel
theorem dX8_byNobody_159 : decode cX8_byNobody 159 = .ok (.i2l, 1) := by decide +kernel
theorem dX8_byNobody_160 : decode cX8_byNobody 160 = .ok (.lmul, 1) := by decide +kernel
theorem dX8_byNobody_161 : decode cX8_byNobody 161 = .ok (.ladd, 1) := by decide +kernel
theorem dX8_byNobody_162 : decode cX8_byNobody 162 = .ok (.lstore 5, 2) := by decide +kernel
theorem dX8_byNobody_164 : decode cX8_byNobody 164 = .ok (.iinc 9 1, 3) := by decide +kernel
theorem dX8_byNobody_167 : decode cX8_byNobody 167 = .ok (.goto (-135), 3) := by decide +kernel
theorem dX8_byNobody_170 : decode cX8_byNobody 170 = .ok (.lload 5, 2) := by decide +kernel
theorem dX8_byNobody_172 : decode cX8_byNobody 172 = .ok (.lload 7, 2) := by decide +kernel
theorem dX8_byNobody_174 : decode cX8_byNobody 174 = .ok (.iload 4, 2) := by decide +kernel
theorem dX8_byNobody_176 : decode cX8_byNobody 176 = .ok (.invokestatic 201, 3) := by decide +kernel
theorem dX8_byNobody_179 : decode cX8_byNobody 179 = .ok (.lreturn, 1) := by decide +kernel
set_option maxRecDepth 20000 in
theorem ggX8_luck_X8_in : GoodIn wsX8_luck wsX8_in := goodIn_r _ [7] (by decide +kernel) (by decide +kernel)
set_option maxRecDepth 20000 in
theorem gX8_luck_X8_in : GoodIn wsX8_luck (va_wsS RX8 53 yX8_in wsX8_in) := goodIn_app (goodIn_of _ (by decide +kernel)) ggX8_luck_X8_in
set_option maxRecDepth 20000 in
theorem ggX8_luck_X8_byNobody : GoodIn wsX8_luck wsX8_byNobody := goodIn_r _ [11, 1, 12, 13, 14, 15, 16, 6, 17, 18, 19, 20, 21, 22, 23, 24, 25, 26, 27, 28, 29, 30, 31, 32, 33, 34, 35, 36, 37, 38, 39, 40, 41, 42, 43, 44, 45, 46, 47, 48, 49, 50, 51, 52, 53, 54, 55, 56, 57, 58, 59, 60, 61, 62, 63, 64, 65, 66, 67, 68, 69, 70, 71, 72, 73, 74, 75, 76, 77] (by decide +kernel) (by decide +kernel)
set_option maxRecDepth 20000 in
theorem gX8_luck_X8_byNobody : GoodIn wsX8_luck (wsV RX8 207 RX8 yX8_byNobody wsX8_byNobody) := goodIn_app (goodIn_of _ (by decide +kernel)) ggX8_luck_X8_byNobody
theorem dX8_luck_0 : decode cX8_luck 0 = .ok (.iload_n 1, 1) := by decide +kernel
theorem dX8_luck_1 : decode cX8_luck 1 = .ok (.i2l, 1) := by decide +kernel
theorem dX8_luck_2 : decode cX8_luck 2 = .ok (.lconst 0, 1) := by decide +kernel
theorem dX8_luck_3 : decode cX8_luck 3 = .ok (.ldc2_w 199, 3) := by decide +kernel
theorem dX8_luck_6 : decode cX8_luck 6 = .ok (.invokestatic 53, 3) := by decide +kernel
theorem dX8_luck_9 : decode cX8_luck 9 = .ok (.ifCond .eq 36, 3) := by decide +kernel
theorem dX8_luck_12 : decode cX8_luck 12 = .ok (.iload_n 2, 1) := by decide +kernel
theorem dX8_luck_13 : decode cX8_luck 13 = .ok (.i2l, 1) := by decide +kernel
theorem dX8_luck_14 : decode cX8_luck 14 = .ok (.lconst 0, 1) := by decide +kernel
theorem dX8_luck_15 : decode cX8_luck 15 = .ok (.ldc2_w 205, 3) := by decide +kernel
theorem dX8_luck_18 : decode cX8_luck 18 = .ok (.invokestatic 53, 3) := by decide +kernel
theorem dX8_luck_21 : decode cX8_luck 21 = .ok (.ifCond .eq 24, 3) := by decide +kernel
theorem dX8_luck_24 : decode cX8_luck 24 = .ok (.iload_n 3, 1) := by decide +kernel
theorem dX8_luck_25 : decode cX8_luck 25 = .ok (.i2l, 1) := by decide +kernel
theorem dX8_luck_26 : decode cX8_luck 26 = .ok (.lconst 0, 1) := by decide +kernel
theorem dX8_luck_27 : decode cX8_luck 27 = .ok (.lconst 1, 1) := by decide +kernel
theorem dX8_luck_28 : decode cX8_luck 28 = .ok (.invokestatic 53, 3) := by decide +kernel
theorem dX8_luck_31 : decode cX8_luck 31 = .ok (.ifCond .eq 14, 3) := by decide +kernel
theorem dX8_luck_34 : decode cX8_luck 34 = .ok (.aload_n 0, 1) := by decide +kernel
theorem dX8_luck_35 : decode cX8_luck 35 = .ok (.iload_n 1, 1) := by decide +kernel
theorem dX8_luck_36 : decode cX8_luck 36 = .ok (.iload_n 2, 1) := by decide +kernel
theorem dX8_luck_37 : decode cX8_luck 37 = .ok (.iconst 0, 1) := by decide +kernel
theorem dX8_luck_38 : decode cX8_luck 38 = .ok (.iload_n 3, 1) := by decide +kernel
theorem dX8_luck_39 : decode cX8_luck 39 = .ok (.invokevirtual 207, 3) := by decide +kernel
theorem dX8_luck_42 : decode cX8_luck 42 = .ok (.goto 6, 3) := by decide +kernel
theorem dX8_luck_45 : decode cX8_luck 45 = .ok (.ldc2_w 211, 3) := by decide +kernel
theorem dX8_luck_48 : decode cX8_luck 48 = .ok (.lreturn, 1) := by decide +kernel
set_option maxRecDepth 20000 in
theorem ggX8_mean_X8_in : GoodIn wsX8_mean wsX8_in := goodIn_r _ [7] (by decide +kernel) (by decide +kernel)
set_option maxRecDepth 20000 in
theorem gX8_mean_X8_in : GoodIn wsX8_mean (va_wsS RX8 53 yX8_in wsX8_in) := goodIn_app (goodIn_of _ (by decide +kernel)) ggX8_mean_X8_in
set_option maxRecDepth 20000 in
theorem ggX8_mean_X8_byNobody : GoodIn wsX8_mean wsX8_byNobody := goodIn_r _ [11, 1, 12, 13, 14, 15, 16, 6, 17, 18, 19, 20, 21, 22, 23, 24, 25, 26, 27, 28, 29, 30, 31, 32, 33, 34, 35, 36, 37, 38, 39, 40, 41, 42, 43, 44, 45, 46, 47, 48, 49, 50, 51, 52, 53, 54, 55, 56, 57, 58, 59, 60, 61, 62, 63, 64, 65, 66, 67, 68, 69, 70, 71, 72, 73, 74, 75, 76, 77] (by decide +kernel) (by decide +kernel)
set_option maxRecDepth 20000 in
theorem gX8_mean_X8_byNobody : GoodIn wsX8_mean (wsV RX8 207 RX8 yX8_byNobody wsX8_byNobody) := goodIn_app (goodIn_of _ (by decide +kernel)) ggX8_mean_X8_byNobody
theorem dX8_mean_0 : decode cX8_mean 0 = .ok (.iload_n 1, 1) := by decide +kernel
theorem dX8_mean_1 : decode cX8_mean 1 = .ok (.i2l, 1) := by decide +kernel
theorem dX8_mean_2 : decode cX8_mean 2 = .ok (.lconst 0, 1) := by decide +kernel
theorem dX8_mean_3 : decode cX8_mean 3 = .ok (.ldc2_w 199, 3) := by decide +kernel
theorem dX8_mean_6 : decode cX8_mean 6 = .ok (.invokestatic 53, 3) := by decide +kernel
theorem dX8_mean_9 : decode cX8_mean 9 = .ok (.ifCond .eq 36, 3) := by decide +kernel
theorem dX8_mean_12 : decode cX8_mean 12 = .ok (.iload_n 2, 1) := by decide +kernel
theorem dX8_mean_13 : decode cX8_mean 13 = .ok (.i2l, 1) := by decide +kernel
theorem dX8_mean_14 : decode cX8_mean 14 = .ok (.lconst 0, 1) := by decide +kernel
theorem dX8_mean_15 : decode cX8_mean 15 = .ok (.ldc2_w 205, 3) := by decide +kernel
theorem dX8_mean_18 : decode cX8_mean 18 = .ok (.invokestatic 53, 3) := by decide +kernel
theorem dX8_mean_21 : decode cX8_mean 21 = .ok (.ifCond .eq 24, 3) := by decide +kernel
theorem dX8_mean_24 : decode cX8_mean 24 = .ok (.iload_n 3, 1) := by decide +kernel
theorem dX8_mean_25 : decode cX8_mean 25 = .ok (.i2l, 1) := by decide +kernel
theorem dX8_mean_26 : decode cX8_mean 26 = .ok (.lconst 0, 1) := by decide +kernel
theorem dX8_mean_27 : decode cX8_mean 27 = .ok (.lconst 1, 1) := by decide +kernel
theorem dX8_mean_28 : decode cX8_mean 28 = .ok (.invokestatic 53, 3) := by decide +kernel
theorem dX8_mean_31 : decode cX8_mean 31 = .ok (.ifCond .eq 14, 3) := by decide +kernel
theorem dX8_mean_34 : decode cX8_mean 34 = .ok (.aload_n 0, 1) := by decide +kernel
theorem dX8_mean_35 : decode cX8_mean 35 = .ok (.iload_n 1, 1) := by decide +kernel
theorem dX8_mean_36 : decode cX8_mean 36 = .ok (.iload_n 2, 1) := by decide +kernel
theorem dX8_mean_37 : decode cX8_mean 37 = .ok (.iconst 1, 1) := by decide +kernel
theorem dX8_mean_38 : decode cX8_mean 38 = .ok (.iload_n 3, 1) := by decide +kernel
theorem dX8_mean_39 : decode cX8_mean 39 = .ok (.invokevirtual 207, 3) := by decide +kernel
theorem dX8_mean_42 : decode cX8_mean 42 = .ok (.goto 6, 3) := by decide +kernel
theorem dX8_mean_45 : decode cX8_mean 45 = .ok (.ldc2_w 211, 3) := by decide +kernel
theorem dX8_mean_48 : decode cX8_mean 48 = .ok (.lreturn, 1) := by decide +kernel
set_option maxRecDepth 20000 in
theorem ggX8_see_X8_in : GoodIn wsX8_see wsX8_in := goodIn_r _ [8] (by decide +kernel) (by decide +kernel)
set_option maxRecDepth 20000 in
theorem gX8_see_X8_in : GoodIn wsX8_see (va_wsS RX8 53 yX8_in wsX8_in) := goodIn_app (goodIn_of _ (by decide +kernel)) ggX8_see_X8_in
theorem dX8_see_0 : decode cX8_see 0 = .ok (.iload_n 1, 1) := by decide +kernel
theorem dX8_see_1 : decode cX8_see 1 = .ok (.i2l, 1) := by decide +kernel
theorem dX8_see_2 : decode cX8_see 2 = .ok (.lconst 0, 1) := by decide +kernel
theorem dX8_see_3 : decode cX8_see 3 = .ok (.ldc2_w 213, 3) := by decide +kernel
theorem dX8_see_6 : decode cX8_see 6 = .ok (.invokestatic 53, 3) := by decide +kernel
theorem dX8_see_9 : decode cX8_see 9 = .ok (.ifCond .eq 15, 3) := by decide +kernel
theorem dX8_see_12 : decode cX8_see 12 = .ok (.iload_n 2, 1) := by decide +kernel
theorem dX8_see_13 : decode cX8_see 13 = .ok (.i2l, 1) := by decide +kernel
theorem dX8_see_14 : decode cX8_see 14 = .ok (.lconst 0, 1) := by decide +kernel
theorem dX8_see_15 : decode cX8_see 15 = .ok (.ldc2_w 215, 3) := by decide +kernel
theorem dX8_see_18 : decode cX8_see 18 = .ok (.invokestatic 53, 3) := by decide +kernel
theorem dX8_see_21 : decode cX8_see 21 = .ok (.ifCond .ne 5, 3) := by decide +kernel
theorem dX8_see_24 : decode cX8_see 24 = .ok (.iconst (-1), 1) := by decide +kernel
theorem dX8_see_25 : decode cX8_see 25 = .ok (.ireturn, 1) := by decide +kernel
theorem dX8_see_26 : decode cX8_see 26 = .ok (.aload_n 0, 1) := by decide +kernel
theorem dX8_see_27 : decode cX8_see 27 = .ok (.getfield 116, 3) := by decide +kernel
theorem dX8_see_30 : decode cX8_see 30 = .ok (.bipush 6, 2) := by decide +kernel
theorem dX8_see_32 : decode cX8_see 32 = .ok (.if_icmp .ne 6, 3) := by decide +kernel
theorem dX8_see_35 : decode cX8_see 35 = .ok (.bipush (-3), 2) := by decide +kernel
theorem dX8_see_37 : decode cX8_see 37 = .ok (.ireturn, 1) := by decide +kernel
theorem dX8_see_38 : decode cX8_see 38 = .ok (.aload_n 0, 1) := by decide +kernel
theorem dX8_see_39 : decode cX8_see 39 = .ok (.getfield 32, 3) := by decide +kernel
theorem dX8_see_42 : decode cX8_see 42 = .ok (.iconst 2, 1) := by decide +kernel
theorem dX8_see_43 : decode cX8_see 43 = .ok (.aload_n 0, 1) := by decide +kernel
theorem dX8_see_44 : decode cX8_see 44 = .ok (.getfield 116, 3) := by decide +kernel
theorem dX8_see_47 : decode cX8_see 47 = .ok (.imul, 1) := by decide +kernel
theorem dX8_see_48 : decode cX8_see 48 = .ok (.iload_n 1, 1) := by decide +kernel
theorem dX8_see_49 : decode cX8_see 49 = .ok (.iastore, 1) := by decide +kernel
theorem dX8_see_50 : decode cX8_see 50 = .ok (.aload_n 0, 1) := by decide +kernel
theorem dX8_see_51 : decode cX8_see 51 = .ok (.getfield 32, 3) := by decide +kernel
theorem dX8_see_54 : decode cX8_see 54 = .ok (.iconst 2, 1) := by decide +kernel
theorem dX8_see_55 : decode cX8_see 55 = .ok (.aload_n 0, 1) := by decide +kernel
theorem dX8_see_56 : decode cX8_see 56 = .ok (.getfield 116, 3) := by decide +kernel
theorem dX8_see_59 : decode cX8_see 59 = .ok (.imul, 1) := by decide +kernel
theorem dX8_see_60 : decode cX8_see 60 = .ok (.iconst 1, 1) := by decide +kernel
theorem dX8_see_61 : decode cX8_see 61 = .ok (.iadd, 1) := by decide +kernel
theorem dX8_see_62 : decode cX8_see 62 = .ok (.iload_n 2, 1) := by decide +kernel
theorem dX8_see_63 : decode cX8_see 63 = .ok (.iastore, 1) := by decide +kernel
theorem dX8_see_64 : decode cX8_see 64 = .ok (.aload_n 0, 1) := by decide +kernel
theorem dX8_see_65 : decode cX8_see 65 = .ok (.dup, 1) := by decide +kernel
theorem dX8_see_66 : decode cX8_see 66 = .ok (.getfield 116, 3) := by decide +kernel
theorem dX8_see_69 : decode cX8_see 69 = .ok (.iconst 1, 1) := by decide +kernel
theorem dX8_see_70 : decode cX8_see 70 = .ok (.iadd, 1) := by decide +kernel
theorem dX8_see_71 : decode cX8_see 71 = .ok (.putfield 116, 3) := by decide +kernel
theorem dX8_see_74 : decode cX8_see 74 = .ok (.aload_n 0, 1) := by decide +kernel
theorem dX8_see_75 : decode cX8_see 75 = .ok (.getfield 116, 3) := by decide +kernel
theorem dX8_see_78 : decode cX8_see 78 = .ok (.ireturn, 1) := by decide +kernel
set_option maxRecDepth 20000 in
theorem ggX8_forget_X8_in : GoodIn wsX8_forget wsX8_in := goodIn_r _ [5] (by decide +kernel) (by decide +kernel)
set_option maxRecDepth 20000 in
theorem gX8_forget_X8_in : GoodIn wsX8_forget (va_wsS RX8 53 yX8_in wsX8_in) := goodIn_app (goodIn_of _ (by decide +kernel)) ggX8_forget_X8_in
theorem dX8_forget_0 : decode cX8_forget 0 = .ok (.iload_n 1, 1) := by decide +kernel
theorem dX8_forget_1 : decode cX8_forget 1 = .ok (.i2l, 1) := by decide +kernel
theorem dX8_forget_2 : decode cX8_forget 2 = .ok (.lconst 0, 1) := by decide +kernel
theorem dX8_forget_3 : decode cX8_forget 3 = .ok (.aload_n 0, 1) := by decide +kernel
theorem dX8_forget_4 : decode cX8_forget 4 = .ok (.getfield 116, 3) := by decide +kernel
theorem dX8_forget_7 : decode cX8_forget 7 = .ok (.i2l, 1) := by decide +kernel
theorem dX8_forget_8 : decode cX8_forget 8 = .ok (.invokestatic 53, 3) := by decide +kernel
theorem dX8_forget_11 : decode cX8_forget 11 = .ok (.ifCond .ne 5, 3) := by decide +kernel
theorem dX8_forget_14 : decode cX8_forget 14 = .ok (.iconst (-1), 1) := by decide +kernel
theorem dX8_forget_15 : decode cX8_forget 15 = .ok (.ireturn, 1) := by decide +kernel
theorem dX8_forget_16 : decode cX8_forget 16 = .ok (.aload_n 0, 1) := by decide +kernel
theorem dX8_forget_17 : decode cX8_forget 17 = .ok (.getfield 116, 3) := by decide +kernel
theorem dX8_forget_20 : decode cX8_forget 20 = .ok (.istore_n 2, 1) := by decide +kernel
theorem dX8_forget_21 : decode cX8_forget 21 = .ok (.aload_n 0, 1) := by decide +kernel
theorem dX8_forget_22 : decode cX8_forget 22 = .ok (.iload_n 1, 1) := by decide +kernel
theorem dX8_forget_23 : decode cX8_forget 23 = .ok (.putfield 116, 3) := by decide +kernel
theorem dX8_forget_26 : decode cX8_forget 26 = .ok (.iload_n 2, 1) := by decide +kernel
theorem dX8_forget_27 : decode cX8_forget 27 = .ok (.ireturn, 1) := by decide +kernel
set_option maxRecDepth 20000 in
theorem ggX8_isAsSeen_X8_copies : GoodIn wsX8_isAsSeen wsX8_copies := goodIn_r _ [8, 9, 45, 46, 47, 48, 49, 50, 51, 52, 53, 54, 55, 56, 57, 58, 59, 60, 61, 62, 63, 64, 65, 66, 67, 68, 69, 70, 71] (by decide +kernel) (by decide +kernel)
set_option maxRecDepth 20000 in
theorem gX8_isAsSeen_X8_copies : GoodIn wsX8_isAsSeen (wsV RX8 186 RX8 yX8_copies wsX8_copies) := goodIn_app (goodIn_of _ (by decide +kernel)) ggX8_isAsSeen_X8_copies
set_option maxRecDepth 20000 in
theorem ggX8_isAsSeen_X8_starts : GoodIn wsX8_isAsSeen wsX8_starts := goodIn_r _ [13, 14, 15, 16, 17, 18, 45, 46, 47, 48, 49, 50, 51, 52, 53, 54, 55, 56, 57, 58, 59, 60, 61, 62, 63, 64, 65, 66, 67, 68, 69, 70, 71] (by decide +kernel) (by decide +kernel)
set_option maxRecDepth 20000 in
theorem gX8_isAsSeen_X8_starts : GoodIn wsX8_isAsSeen (wsV RX8 180 RX8 yX8_starts wsX8_starts) := goodIn_app (goodIn_of _ (by decide +kernel)) ggX8_isAsSeen_X8_starts
set_option maxRecDepth 20000 in
theorem ggX8_isAsSeen_X8_goesOn : GoodIn wsX8_isAsSeen wsX8_goesOn := goodIn_r _ [22, 23, 24, 25, 7, 26, 9, 27, 28, 29, 30, 14, 15, 31, 16, 17, 32, 33, 34, 35, 18, 36, 37, 38, 39, 40, 41, 42, 43, 44, 45, 46, 47, 48, 49, 50, 51, 52, 53, 54, 55, 56, 57, 58, 59, 60, 61, 62, 63, 64, 65, 66, 67, 68, 69, 70, 71] (by decide +kernel) (by decide +kernel)
set_option maxRecDepth 20000 in
theorem gX8_isAsSeen_X8_goesOn : GoodIn wsX8_isAsSeen (wsV RX8 183 RX8 yX8_goesOn wsX8_goesOn) := goodIn_app (goodIn_of _ (by decide +kernel)) ggX8_isAsSeen_X8_goesOn
theorem dX8_isAsSeen_0 : decode cX8_isAsSeen 0 = .ok (.aload_n 0, 1) := by decide +kernel
theorem dX8_isAsSeen_1 : decode cX8_isAsSeen 1 = .ok (.iload_n 1, 1) := by decide +kernel
theorem dX8_isAsSeen_2 : decode cX8_isAsSeen 2 = .ok (.sipush 180, 3) := by decide +kernel
theorem dX8_isAsSeen_5 : decode cX8_isAsSeen 5 = .ok (.invokevirtual 186, 3) := by decide +kernel
theorem dX8_isAsSeen_8 : decode cX8_isAsSeen 8 = .ok (.aload_n 0, 1) := by decide +kernel
theorem dX8_isAsSeen_9 : decode cX8_isAsSeen 9 = .ok (.invokevirtual 180, 3) := by decide +kernel
theorem dX8_isAsSeen_12 : decode cX8_isAsSeen 12 = .ok (.iconst 1, 1) := by decide +kernel
theorem dX8_isAsSeen_13 : decode cX8_isAsSeen 13 = .ok (.istore_n 3, 1) := by decide +kernel
theorem dX8_isAsSeen_14 : decode cX8_isAsSeen 14 = .ok (.iconst 0, 1) := by decide +kernel
theorem dX8_isAsSeen_15 : decode cX8_isAsSeen 15 = .ok (.istore 4, 2) := by decide +kernel
theorem dX8_isAsSeen_17 : decode cX8_isAsSeen 17 = .ok (.iload 4, 2) := by decide +kernel
theorem dX8_isAsSeen_19 : decode cX8_isAsSeen 19 = .ok (.bipush 40, 2) := by decide +kernel
theorem dX8_isAsSeen_21 : decode cX8_isAsSeen 21 = .ok (.if_icmp .gt 90, 3) := by decide +kernel
theorem dX8_isAsSeen_24 : decode cX8_isAsSeen 24 = .ok (.aload_n 0, 1) := by decide +kernel
theorem dX8_isAsSeen_25 : decode cX8_isAsSeen 25 = .ok (.sipush 180, 3) := by decide +kernel
theorem dX8_isAsSeen_28 : decode cX8_isAsSeen 28 = .ok (.invokevirtual 183, 3) := by decide +kernel
theorem dX8_isAsSeen_31 : decode cX8_isAsSeen 31 = .ok (.istore 5, 2) := by decide +kernel
theorem dX8_isAsSeen_33 : decode cX8_isAsSeen 33 = .ok (.aload_n 0, 1) := by decide +kernel
theorem dX8_isAsSeen_34 : decode cX8_isAsSeen 34 = .ok (.getfield 35, 3) := by decide +kernel
theorem dX8_isAsSeen_37 : decode cX8_isAsSeen 37 = .ok (.bipush 41, 2) := by decide +kernel
theorem dX8_isAsSeen_39 : decode cX8_isAsSeen 39 = .ok (.iload_n 2, 1) := by decide +kernel
theorem dX8_isAsSeen_40 : decode cX8_isAsSeen 40 = .ok (.imul, 1) := by decide +kernel
theorem dX8_isAsSeen_41 : decode cX8_isAsSeen 41 = .ok (.iload 4, 2) := by decide +kernel
theorem dX8_isAsSeen_43 : decode cX8_isAsSeen 43 = .ok (.iadd, 1) := by decide +kernel
theorem dX8_isAsSeen_44 : decode cX8_isAsSeen 44 = .ok (.iload 5, 2) := by decide +kernel
theorem dX8_isAsSeen_46 : decode cX8_isAsSeen 46 = .ok (.iastore, 1) := by decide +kernel
theorem dX8_isAsSeen_47 : decode cX8_isAsSeen 47 = .ok (.iconst 0, 1) := by decide +kernel
theorem dX8_isAsSeen_48 : decode cX8_isAsSeen 48 = .ok (.istore 6, 2) := by decide +kernel
theorem dX8_isAsSeen_50 : decode cX8_isAsSeen 50 = .ok (.iload 6, 2) := by decide +kernel
theorem dX8_isAsSeen_52 : decode cX8_isAsSeen 52 = .ok (.aload_n 0, 1) := by decide +kernel
theorem dX8_isAsSeen_53 : decode cX8_isAsSeen 53 = .ok (.getfield 116, 3) := by decide +kernel
theorem dX8_isAsSeen_56 : decode cX8_isAsSeen 56 = .ok (.if_icmp .ge 49, 3) := by decide +kernel
theorem dX8_isAsSeen_59 : decode cX8_isAsSeen 59 = .ok (.iload_n 3, 1) := by decide +kernel
theorem dX8_isAsSeen_60 : decode cX8_isAsSeen 60 = .ok (.ifCond .eq 37, 3) := by decide +kernel
theorem dX8_isAsSeen_63 : decode cX8_isAsSeen 63 = .ok (.aload_n 0, 1) := by decide +kernel
theorem dX8_isAsSeen_64 : decode cX8_isAsSeen 64 = .ok (.getfield 32, 3) := by decide +kernel
theorem dX8_isAsSeen_67 : decode cX8_isAsSeen 67 = .ok (.iconst 2, 1) := by decide +kernel
theorem dX8_isAsSeen_68 : decode cX8_isAsSeen 68 = .ok (.iload 6, 2) := by decide +kernel
theorem dX8_isAsSeen_70 : decode cX8_isAsSeen 70 = .ok (.imul, 1) := by decide +kernel
theorem dX8_isAsSeen_71 : decode cX8_isAsSeen 71 = .ok (.iaload, 1) := by decide +kernel
theorem dX8_isAsSeen_72 : decode cX8_isAsSeen 72 = .ok (.iload 4, 2) := by decide +kernel
theorem dX8_isAsSeen_74 : decode cX8_isAsSeen 74 = .ok (.if_icmp .ne 19, 3) := by decide +kernel
theorem dX8_isAsSeen_77 : decode cX8_isAsSeen 77 = .ok (.iload 5, 2) := by decide +kernel
theorem dX8_isAsSeen_79 : decode cX8_isAsSeen 79 = .ok (.aload_n 0, 1) := by decide +kernel
theorem dX8_isAsSeen_80 : decode cX8_isAsSeen 80 = .ok (.getfield 32, 3) := by decide +kernel
theorem dX8_isAsSeen_83 : decode cX8_isAsSeen 83 = .ok (.iconst 2, 1) := by decide +kernel
theorem dX8_isAsSeen_84 : decode cX8_isAsSeen 84 = .ok (.iload 6, 2) := by decide +kernel
theorem dX8_isAsSeen_86 : decode cX8_isAsSeen 86 = .ok (.imul, 1) := by decide +kernel
theorem dX8_isAsSeen_87 : decode cX8_isAsSeen 87 = .ok (.iconst 1, 1) := by decide +kernel
theorem dX8_isAsSeen_88 : decode cX8_isAsSeen 88 = .ok (.iadd, 1) := by decide +kernel
theorem dX8_isAsSeen_89 : decode cX8_isAsSeen 89 = .ok (.iaload, 1) := by decide +kernel
theorem dX8_isAsSeen_90 : decode cX8_isAsSeen 90 = .ok (.if_icmp .ne 7, 3) := by decide +kernel
theorem dX8_isAsSeen_93 : decode cX8_isAsSeen 93 = .ok (.iconst 1, 1) := by decide +kernel
theorem dX8_isAsSeen_94 : decode cX8_isAsSeen 94 = .ok (.goto 4, 3) := by decide +kernel
theorem dX8_isAsSeen_97 : decode cX8_isAsSeen 97 = .ok (.iconst 0, 1) := by decide +kernel
theorem dX8_isAsSeen_98 : decode cX8_isAsSeen 98 = .ok (.istore_n 3, 1) := by decide +kernel
theorem dX8_isAsSeen_99 : decode cX8_isAsSeen 99 = .ok (.iinc 6 1, 3) := by decide +kernel
theorem dX8_isAsSeen_102 : decode cX8_isAsSeen 102 = .ok (.goto (-52), 3) := by decide +kernel
theorem dX8_isAsSeen_105 : decode cX8_isAsSeen 105 = .ok (.iinc 4 1, 3) := by decide +kernel
theorem dX8_isAsSeen_108 : decode cX8_isAsSeen 108 = .ok (.goto (-91), 3) := by decide +kernel
theorem dX8_isAsSeen_111 : decode cX8_isAsSeen 111 = .ok (.iload_n 3, 1) := by decide +kernel
theorem dX8_isAsSeen_112 : decode cX8_isAsSeen 112 = .ok (.ireturn, 1) := by decide +kernel
set_option maxRecDepth 20000 in
theorem ggX8_kinds_X8_isDoor : GoodIn wsX8_kinds wsX8_isDoor := goodIn_r _ [6, 1, 7, 8, 5, 9, 56, 57, 58, 59, 60, 61, 62, 63, 64, 65, 66, 67, 68, 69, 70, 71, 72, 73, 74, 75, 76, 77, 78, 79, 80, 81, 82] (by decide +kernel) (by decide +kernel)
set_option maxRecDepth 20000 in
theorem gX8_kinds_X8_isDoor : GoodIn wsX8_kinds (wsV RX8 150 RX8 yX8_isDoor wsX8_isDoor) := goodIn_app (goodIn_of _ (by decide +kernel)) ggX8_kinds_X8_isDoor
set_option maxRecDepth 20000 in
theorem ggX8_kinds_X8_copies : GoodIn wsX8_kinds wsX8_copies := goodIn_r _ [13, 1, 56, 57, 58, 59, 60, 61, 62, 63, 64, 65, 66, 67, 68, 69, 70, 71, 72, 73, 74, 75, 76, 77, 78, 79, 80, 81, 82] (by decide +kernel) (by decide +kernel)
set_option maxRecDepth 20000 in
theorem gX8_kinds_X8_copies : GoodIn wsX8_kinds (wsV RX8 186 RX8 yX8_copies wsX8_copies) := goodIn_app (goodIn_of _ (by decide +kernel)) ggX8_kinds_X8_copies
set_option maxRecDepth 20000 in
theorem ggX8_kinds_X8_isAsSeen : GoodIn wsX8_kinds wsX8_isAsSeen := goodIn_r _ [17, 18, 19, 20, 10, 11, 12, 5, 13, 1, 21, 22, 23, 24, 25, 26, 27, 28, 29, 30, 31, 32, 33, 34, 35, 36, 37, 38, 39, 40, 41, 42, 43, 44, 45, 46, 47, 48, 49, 50, 51, 52, 53, 54, 55, 56, 57, 58, 59, 60, 61, 62, 63, 64, 65, 66, 67, 68, 69, 70, 71, 72, 73, 74, 75, 76, 77, 78, 79, 80, 81, 82] (by decide +kernel) (by decide +kernel)
set_option maxRecDepth 20000 in
theorem gX8_kinds_X8_isAsSeen : GoodIn wsX8_kinds (wsV RX8 217 RX8 yX8_isAsSeen wsX8_isAsSeen) := goodIn_app (goodIn_of _ (by decide +kernel)) ggX8_kinds_X8_isAsSeen
theorem dX8_kinds_0 : decode cX8_kinds 0 = .ok (.aload_n 0, 1) := by decide +kernel
theorem dX8_kinds_1 : decode cX8_kinds 1 = .ok (.iload_n 1, 1) := by decide +kernel
theorem dX8_kinds_2 : decode cX8_kinds 2 = .ok (.invokevirtual 150, 3) := by decide +kernel
theorem dX8_kinds_5 : decode cX8_kinds 5 = .ok (.ifCond .ne 5, 3) := by decide +kernel
theorem dX8_kinds_8 : decode cX8_kinds 8 = .ok (.iconst (-1), 1) := by decide +kernel
theorem dX8_kinds_9 : decode cX8_kinds 9 = .ok (.ireturn, 1) := by decide +kernel
theorem dX8_kinds_10 : decode cX8_kinds 10 = .ok (.iconst 0, 1) := by decide +kernel
theorem dX8_kinds_11 : decode cX8_kinds 11 = .ok (.istore_n 2, 1) := by decide +kernel
theorem dX8_kinds_12 : decode cX8_kinds 12 = .ok (.aload_n 0, 1) := by decide +kernel
theorem dX8_kinds_13 : decode cX8_kinds 13 = .ok (.iconst 0, 1) := by decide +kernel
theorem dX8_kinds_14 : decode cX8_kinds 14 = .ok (.sipush 225, 3) := by decide +kernel
theorem dX8_kinds_17 : decode cX8_kinds 17 = .ok (.invokevirtual 186, 3) := by decide +kernel
theorem dX8_kinds_20 : decode cX8_kinds 20 = .ok (.iconst 0, 1) := by decide +kernel
theorem dX8_kinds_21 : decode cX8_kinds 21 = .ok (.istore_n 3, 1) := by decide +kernel
theorem dX8_kinds_22 : decode cX8_kinds 22 = .ok (.iload_n 3, 1) := by decide +kernel
theorem dX8_kinds_23 : decode cX8_kinds 23 = .ok (.iconst 4, 1) := by decide +kernel
theorem dX8_kinds_24 : decode cX8_kinds 24 = .ok (.if_icmp .ge 41, 3) := by decide +kernel
theorem dX8_kinds_27 : decode cX8_kinds 27 = .ok (.aload_n 0, 1) := by decide +kernel
theorem dX8_kinds_28 : decode cX8_kinds 28 = .ok (.getfield 7, 3) := by decide +kernel
theorem dX8_kinds_31 : decode cX8_kinds 31 = .ok (.sipush 225, 3) := by decide +kernel
theorem dX8_kinds_34 : decode cX8_kinds 34 = .ok (.iload_n 1, 1) := by decide +kernel
theorem dX8_kinds_35 : decode cX8_kinds 35 = .ok (.iadd, 1) := by decide +kernel
theorem dX8_kinds_36 : decode cX8_kinds 36 = .ok (.iload_n 3, 1) := by decide +kernel
theorem dX8_kinds_37 : decode cX8_kinds 37 = .ok (.iastore, 1) := by decide +kernel
theorem dX8_kinds_38 : decode cX8_kinds 38 = .ok (.iload_n 2, 1) := by decide +kernel
theorem dX8_kinds_39 : decode cX8_kinds 39 = .ok (.aload_n 0, 1) := by decide +kernel
theorem dX8_kinds_40 : decode cX8_kinds 40 = .ok (.sipush 225, 3) := by decide +kernel
theorem dX8_kinds_43 : decode cX8_kinds 43 = .ok (.iconst 0, 1) := by decide +kernel
theorem dX8_kinds_44 : decode cX8_kinds 44 = .ok (.invokevirtual 217, 3) := by decide +kernel
theorem dX8_kinds_47 : decode cX8_kinds 47 = .ok (.ifCond .eq 9, 3) := by decide +kernel
theorem dX8_kinds_50 : decode cX8_kinds 50 = .ok (.iconst 1, 1) := by decide +kernel
theorem dX8_kinds_51 : decode cX8_kinds 51 = .ok (.iload_n 3, 1) := by decide +kernel
theorem dX8_kinds_52 : decode cX8_kinds 52 = .ok (.ishl, 1) := by decide +kernel
theorem dX8_kinds_53 : decode cX8_kinds 53 = .ok (.goto 4, 3) := by decide +kernel
theorem dX8_kinds_56 : decode cX8_kinds 56 = .ok (.iconst 0, 1) := by decide +kernel
theorem dX8_kinds_57 : decode cX8_kinds 57 = .ok (.ior, 1) := by decide +kernel
theorem dX8_kinds_58 : decode cX8_kinds 58 = .ok (.istore_n 2, 1) := by decide +kernel
theorem dX8_kinds_59 : decode cX8_kinds 59 = .ok (.iinc 3 1, 3) := by decide +kernel
theorem dX8_kinds_62 : decode cX8_kinds 62 = .ok (.goto (-40), 3) := by decide +kernel
theorem dX8_kinds_65 : decode cX8_kinds 65 = .ok (.iload_n 2, 1) := by decide +kernel
theorem dX8_kinds_66 : decode cX8_kinds 66 = .ok (.ireturn, 1) := by decide +kernel
set_option maxRecDepth 20000 in
theorem ggX8_depths_X8_isDoor : GoodIn wsX8_depths wsX8_isDoor := goodIn_r _ [5, 6, 7, 8, 4, 9, 60, 61, 62, 63, 64, 65, 66, 67, 68, 69, 70, 71, 72, 73, 74, 75, 76, 77, 78, 79, 80, 81, 82, 83, 84, 85, 86] (by decide +kernel) (by decide +kernel)
set_option maxRecDepth 20000 in
theorem gX8_depths_X8_isDoor : GoodIn wsX8_depths (wsV RX8 150 RX8 yX8_isDoor wsX8_isDoor) := goodIn_app (goodIn_of _ (by decide +kernel)) ggX8_depths_X8_isDoor
set_option maxRecDepth 20000 in
theorem ggX8_depths_X8_copies : GoodIn wsX8_depths wsX8_copies := goodIn_r _ [13, 6, 60, 61, 62, 63, 64, 65, 66, 67, 68, 69, 70, 71, 72, 73, 74, 75, 76, 77, 78, 79, 80, 81, 82, 83, 84, 85, 86] (by decide +kernel) (by decide +kernel)
set_option maxRecDepth 20000 in
theorem gX8_depths_X8_copies : GoodIn wsX8_depths (wsV RX8 186 RX8 yX8_copies wsX8_copies) := goodIn_app (goodIn_of _ (by decide +kernel)) ggX8_depths_X8_copies
set_option maxRecDepth 20000 in
theorem ggX8_depths_X8_deepOn : GoodIn wsX8_depths wsX8_deepOn := goodIn_r _ [17, 6, 60, 61, 62, 63, 64, 65, 66, 67, 68, 69, 70, 71, 72, 73, 74, 75, 76, 77, 78, 79, 80, 81, 82, 83, 84, 85, 86] (by decide +kernel) (by decide +kernel)
set_option maxRecDepth 20000 in
theorem gX8_depths_X8_deepOn : GoodIn wsX8_depths (wsV RX8 163 RX8 yX8_deepOn wsX8_deepOn) := goodIn_app (goodIn_of _ (by decide +kernel)) ggX8_depths_X8_deepOn
set_option maxRecDepth 20000 in
theorem ggX8_depths_X8_isAsSeen : GoodIn wsX8_depths wsX8_isAsSeen := goodIn_r _ [21, 22, 23, 24, 10, 11, 12, 4, 13, 6, 25, 26, 27, 28, 29, 30, 31, 32, 33, 34, 35, 36, 37, 38, 39, 40, 41, 42, 43, 44, 45, 46, 47, 48, 49, 50, 51, 52, 53, 54, 55, 56, 57, 58, 59, 60, 61, 62, 63, 64, 65, 66, 67, 68, 69, 70, 71, 72, 73, 74, 75, 76, 77, 78, 79, 80, 81, 82, 83, 84, 85, 86] (by decide +kernel) (by decide +kernel)
set_option maxRecDepth 20000 in
theorem gX8_depths_X8_isAsSeen : GoodIn wsX8_depths (wsV RX8 217 RX8 yX8_isAsSeen wsX8_isAsSeen) := goodIn_app (goodIn_of _ (by decide +kernel)) ggX8_depths_X8_isAsSeen
theorem dX8_depths_0 : decode cX8_depths 0 = .ok (.aload_n 0, 1) := by decide +kernel
theorem dX8_depths_1 : decode cX8_depths 1 = .ok (.iload_n 1, 1) := by decide +kernel
theorem dX8_depths_2 : decode cX8_depths 2 = .ok (.invokevirtual 150, 3) := by decide +kernel
theorem dX8_depths_5 : decode cX8_depths 5 = .ok (.ifCond .ne 5, 3) := by decide +kernel
theorem dX8_depths_8 : decode cX8_depths 8 = .ok (.iconst (-1), 1) := by decide +kernel
theorem dX8_depths_9 : decode cX8_depths 9 = .ok (.ireturn, 1) := by decide +kernel
theorem dX8_depths_10 : decode cX8_depths 10 = .ok (.iconst 0, 1) := by decide +kernel
theorem dX8_depths_11 : decode cX8_depths 11 = .ok (.istore_n 2, 1) := by decide +kernel
theorem dX8_depths_12 : decode cX8_depths 12 = .ok (.iconst 1, 1) := by decide +kernel
theorem dX8_depths_13 : decode cX8_depths 13 = .ok (.istore_n 3, 1) := by decide +kernel
theorem dX8_depths_14 : decode cX8_depths 14 = .ok (.iload_n 3, 1) := by decide +kernel
theorem dX8_depths_15 : decode cX8_depths 15 = .ok (.bipush 9, 2) := by decide +kernel
theorem dX8_depths_17 : decode cX8_depths 17 = .ok (.if_icmp .gt 47, 3) := by decide +kernel
theorem dX8_depths_20 : decode cX8_depths 20 = .ok (.aload_n 0, 1) := by decide +kernel
theorem dX8_depths_21 : decode cX8_depths 21 = .ok (.iconst 0, 1) := by decide +kernel
theorem dX8_depths_22 : decode cX8_depths 22 = .ok (.sipush 225, 3) := by decide +kernel
theorem dX8_depths_25 : decode cX8_depths 25 = .ok (.invokevirtual 186, 3) := by decide +kernel
theorem dX8_depths_28 : decode cX8_depths 28 = .ok (.aload_n 0, 1) := by decide +kernel
theorem dX8_depths_29 : decode cX8_depths 29 = .ok (.sipush 225, 3) := by decide +kernel
theorem dX8_depths_32 : decode cX8_depths 32 = .ok (.iload_n 1, 1) := by decide +kernel
theorem dX8_depths_33 : decode cX8_depths 33 = .ok (.iload_n 3, 1) := by decide +kernel
theorem dX8_depths_34 : decode cX8_depths 34 = .ok (.invokevirtual 163, 3) := by decide +kernel
theorem dX8_depths_37 : decode cX8_depths 37 = .ok (.iload_n 2, 1) := by decide +kernel
theorem dX8_depths_38 : decode cX8_depths 38 = .ok (.aload_n 0, 1) := by decide +kernel
theorem dX8_depths_39 : decode cX8_depths 39 = .ok (.sipush 225, 3) := by decide +kernel
theorem dX8_depths_42 : decode cX8_depths 42 = .ok (.iconst 0, 1) := by decide +kernel
theorem dX8_depths_43 : decode cX8_depths 43 = .ok (.invokevirtual 217, 3) := by decide +kernel
theorem dX8_depths_46 : decode cX8_depths 46 = .ok (.ifCond .eq 9, 3) := by decide +kernel
theorem dX8_depths_49 : decode cX8_depths 49 = .ok (.iconst 1, 1) := by decide +kernel
theorem dX8_depths_50 : decode cX8_depths 50 = .ok (.iload_n 3, 1) := by decide +kernel
theorem dX8_depths_51 : decode cX8_depths 51 = .ok (.ishl, 1) := by decide +kernel
theorem dX8_depths_52 : decode cX8_depths 52 = .ok (.goto 4, 3) := by decide +kernel
theorem dX8_depths_55 : decode cX8_depths 55 = .ok (.iconst 0, 1) := by decide +kernel
theorem dX8_depths_56 : decode cX8_depths 56 = .ok (.ior, 1) := by decide +kernel
theorem dX8_depths_57 : decode cX8_depths 57 = .ok (.istore_n 2, 1) := by decide +kernel
theorem dX8_depths_58 : decode cX8_depths 58 = .ok (.iinc 3 1, 3) := by decide +kernel
theorem dX8_depths_61 : decode cX8_depths 61 = .ok (.goto (-47), 3) := by decide +kernel
theorem dX8_depths_64 : decode cX8_depths 64 = .ok (.iload_n 2, 1) := by decide +kernel
theorem dX8_depths_65 : decode cX8_depths 65 = .ok (.ireturn, 1) := by decide +kernel
set_option maxRecDepth 20000 in
theorem ggX8_ratesOf_X8_copies : GoodIn wsX8_ratesOf wsX8_copies := goodIn_r _ [6, 1, 49, 50, 51, 52, 53, 54, 55, 56, 57, 58, 59, 60, 61, 62, 63, 64, 65, 66, 67, 68, 69, 70, 71, 72, 73, 74, 75] (by decide +kernel) (by decide +kernel)
set_option maxRecDepth 20000 in
theorem gX8_ratesOf_X8_copies : GoodIn wsX8_ratesOf (wsV RX8 186 RX8 yX8_copies wsX8_copies) := goodIn_app (goodIn_of _ (by decide +kernel)) ggX8_ratesOf_X8_copies
set_option maxRecDepth 20000 in
theorem ggX8_ratesOf_X8_isAsSeen : GoodIn wsX8_ratesOf wsX8_isAsSeen := goodIn_r _ [10, 11, 12, 13, 2, 3, 4, 5, 6, 1, 14, 15, 16, 17, 18, 19, 20, 21, 22, 23, 24, 25, 26, 27, 28, 29, 30, 31, 32, 33, 34, 35, 36, 37, 38, 39, 40, 41, 42, 43, 44, 45, 46, 47, 48, 49, 50, 51, 52, 53, 54, 55, 56, 57, 58, 59, 60, 61, 62, 63, 64, 65, 66, 67, 68, 69, 70, 71, 72, 73, 74, 75] (by decide +kernel) (by decide +kernel)
set_option maxRecDepth 20000 in
theorem gX8_ratesOf_X8_isAsSeen : GoodIn wsX8_ratesOf (wsV RX8 217 RX8 yX8_isAsSeen wsX8_isAsSeen) := goodIn_app (goodIn_of _ (by decide +kernel)) ggX8_ratesOf_X8_isAsSeen
theorem dX8_ratesOf_0 : decode cX8_ratesOf 0 = .ok (.iconst 0, 1) := by decide +kernel
theorem dX8_ratesOf_1 : decode cX8_ratesOf 1 = .ok (.istore_n 2, 1) := by decide +kernel
theorem dX8_ratesOf_2 : decode cX8_ratesOf 2 = .ok (.aload_n 0, 1) := by decide +kernel
theorem dX8_ratesOf_3 : decode cX8_ratesOf 3 = .ok (.iconst 0, 1) := by decide +kernel
theorem dX8_ratesOf_4 : decode cX8_ratesOf 4 = .ok (.sipush 225, 3) := by decide +kernel
theorem dX8_ratesOf_7 : decode cX8_ratesOf 7 = .ok (.invokevirtual 186, 3) := by decide +kernel
theorem dX8_ratesOf_10 : decode cX8_ratesOf 10 = .ok (.iconst 0, 1) := by decide +kernel
theorem dX8_ratesOf_11 : decode cX8_ratesOf 11 = .ok (.istore_n 3, 1) := by decide +kernel
theorem dX8_ratesOf_12 : decode cX8_ratesOf 12 = .ok (.iload_n 3, 1) := by decide +kernel
theorem dX8_ratesOf_13 : decode cX8_ratesOf 13 = .ok (.bipush 9, 2) := by decide +kernel
theorem dX8_ratesOf_15 : decode cX8_ratesOf 15 = .ok (.if_icmp .gt 41, 3) := by decide +kernel
theorem dX8_ratesOf_18 : decode cX8_ratesOf 18 = .ok (.aload_n 0, 1) := by decide +kernel
theorem dX8_ratesOf_19 : decode cX8_ratesOf 19 = .ok (.getfield 7, 3) := by decide +kernel
theorem dX8_ratesOf_22 : decode cX8_ratesOf 22 = .ok (.sipush 233, 3) := by decide +kernel
theorem dX8_ratesOf_25 : decode cX8_ratesOf 25 = .ok (.iload_n 1, 1) := by decide +kernel
theorem dX8_ratesOf_26 : decode cX8_ratesOf 26 = .ok (.iadd, 1) := by decide +kernel
theorem dX8_ratesOf_27 : decode cX8_ratesOf 27 = .ok (.iload_n 3, 1) := by decide +kernel
theorem dX8_ratesOf_28 : decode cX8_ratesOf 28 = .ok (.iastore, 1) := by decide +kernel
theorem dX8_ratesOf_29 : decode cX8_ratesOf 29 = .ok (.iload_n 2, 1) := by decide +kernel
theorem dX8_ratesOf_30 : decode cX8_ratesOf 30 = .ok (.aload_n 0, 1) := by decide +kernel
theorem dX8_ratesOf_31 : decode cX8_ratesOf 31 = .ok (.sipush 225, 3) := by decide +kernel
theorem dX8_ratesOf_34 : decode cX8_ratesOf 34 = .ok (.iload_n 3, 1) := by decide +kernel
theorem dX8_ratesOf_35 : decode cX8_ratesOf 35 = .ok (.invokevirtual 217, 3) := by decide +kernel
theorem dX8_ratesOf_38 : decode cX8_ratesOf 38 = .ok (.ifCond .eq 9, 3) := by decide +kernel
theorem dX8_ratesOf_41 : decode cX8_ratesOf 41 = .ok (.iconst 1, 1) := by decide +kernel
theorem dX8_ratesOf_42 : decode cX8_ratesOf 42 = .ok (.iload_n 3, 1) := by decide +kernel
theorem dX8_ratesOf_43 : decode cX8_ratesOf 43 = .ok (.ishl, 1) := by decide +kernel
theorem dX8_ratesOf_44 : decode cX8_ratesOf 44 = .ok (.goto 4, 3) := by decide +kernel
theorem dX8_ratesOf_47 : decode cX8_ratesOf 47 = .ok (.iconst 0, 1) := by decide +kernel
theorem dX8_ratesOf_48 : decode cX8_ratesOf 48 = .ok (.ior, 1) := by decide +kernel
theorem dX8_ratesOf_49 : decode cX8_ratesOf 49 = .ok (.istore_n 2, 1) := by decide +kernel
theorem dX8_ratesOf_50 : decode cX8_ratesOf 50 = .ok (.iinc 3 1, 3) := by decide +kernel
theorem dX8_ratesOf_53 : decode cX8_ratesOf 53 = .ok (.goto (-41), 3) := by decide +kernel
theorem dX8_ratesOf_56 : decode cX8_ratesOf 56 = .ok (.iload_n 2, 1) := by decide +kernel
theorem dX8_ratesOf_57 : decode cX8_ratesOf 57 = .ok (.ireturn, 1) := by decide +kernel
set_option maxRecDepth 20000 in
theorem ggX8_rates_X8_isDoor : GoodIn wsX8_rates wsX8_isDoor := goodIn_r _ [5, 6, 7, 8, 4, 9, 60, 61, 62, 63, 64, 65, 66, 67, 68, 69, 70, 71, 72, 73, 74, 75, 76, 77, 78, 79, 80, 81, 82, 83, 84, 85, 86] (by decide +kernel) (by decide +kernel)
set_option maxRecDepth 20000 in
theorem gX8_rates_X8_isDoor : GoodIn wsX8_rates (wsV RX8 150 RX8 yX8_isDoor wsX8_isDoor) := goodIn_app (goodIn_of _ (by decide +kernel)) ggX8_rates_X8_isDoor
set_option maxRecDepth 20000 in
theorem ggX8_rates_X8_ratesOf : GoodIn wsX8_rates wsX8_ratesOf := goodIn_r _ [13, 6, 14, 15, 16, 4, 17, 18, 19, 20, 21, 22, 23, 24, 25, 26, 27, 28, 29, 30, 31, 32, 33, 34, 35, 36, 37, 38, 39, 40, 41, 42, 43, 44, 45, 46, 47, 48, 49, 50, 51, 52, 53, 54, 55, 56, 57, 58, 59, 60, 61, 62, 63, 64, 65, 66, 67, 68, 69, 70, 71, 72, 73, 74, 75, 76, 77, 78, 79, 80, 81, 82, 83, 84, 85, 86] (by decide +kernel) (by decide +kernel)
set_option maxRecDepth 20000 in
theorem gX8_rates_X8_ratesOf : GoodIn wsX8_rates (wsV RX8 221 RX8 yX8_ratesOf wsX8_ratesOf) := goodIn_app (goodIn_of _ (by decide +kernel)) ggX8_rates_X8_ratesOf
theorem dX8_rates_0 : decode cX8_rates 0 = .ok (.aload_n 0, 1) := by decide +kernel
theorem dX8_rates_1 : decode cX8_rates 1 = .ok (.iload_n 1, 1) := by decide +kernel
theorem dX8_rates_2 : decode cX8_rates 2 = .ok (.invokevirtual 150, 3) := by decide +kernel
theorem dX8_rates_5 : decode cX8_rates 5 = .ok (.ifCond .eq 11, 3) := by decide +kernel
theorem dX8_rates_8 : decode cX8_rates 8 = .ok (.aload_n 0, 1) := by decide +kernel
theorem dX8_rates_9 : decode cX8_rates 9 = .ok (.iload_n 1, 1) := by decide +kernel
theorem dX8_rates_10 : decode cX8_rates 10 = .ok (.invokevirtual 221, 3) := by decide +kernel
theorem dX8_rates_13 : decode cX8_rates 13 = .ok (.goto 4, 3) := by decide +kernel
theorem dX8_rates_16 : decode cX8_rates 16 = .ok (.iconst (-1), 1) := by decide +kernel
theorem dX8_rates_17 : decode cX8_rates 17 = .ok (.ireturn, 1) := by decide +kernel
theorem dX8_worstAt_0 : decode cX8_worstAt 0 = .ok (.iconst 0, 1) := by decide +kernel
theorem dX8_worstAt_1 : decode cX8_worstAt 1 = .ok (.istore_n 3, 1) := by decide +kernel
theorem dX8_worstAt_2 : decode cX8_worstAt 2 = .ok (.iconst 0, 1) := by decide +kernel
theorem dX8_worstAt_3 : decode cX8_worstAt 3 = .ok (.istore 4, 2) := by decide +kernel
theorem dX8_worstAt_5 : decode cX8_worstAt 5 = .ok (.iload 4, 2) := by decide +kernel
theorem dX8_worstAt_7 : decode cX8_worstAt 7 = .ok (.bipush 9, 2) := by decide +kernel
theorem dX8_worstAt_9 : decode cX8_worstAt 9 = .ok (.if_icmp .gt 98, 3) := by decide +kernel
theorem dX8_worstAt_12 : decode cX8_worstAt 12 = .ok (.iconst 0, 1) := by decide +kernel
theorem dX8_worstAt_13 : decode cX8_worstAt 13 = .ok (.istore 5, 2) := by decide +kernel
theorem dX8_worstAt_15 : decode cX8_worstAt 15 = .ok (.iconst 0, 1) := by decide +kernel
theorem dX8_worstAt_16 : decode cX8_worstAt 16 = .ok (.istore 6, 2) := by decide +kernel
theorem dX8_worstAt_18 : decode cX8_worstAt 18 = .ok (.iload 6, 2) := by decide +kernel
theorem dX8_worstAt_20 : decode cX8_worstAt 20 = .ok (.bipush 9, 2) := by decide +kernel
theorem dX8_worstAt_22 : decode cX8_worstAt 22 = .ok (.if_icmp .gt 66, 3) := by decide +kernel
theorem dX8_worstAt_25 : decode cX8_worstAt 25 = .ok (.iload_n 1, 1) := by decide +kernel
theorem dX8_worstAt_26 : decode cX8_worstAt 26 = .ok (.iload 4, 2) := by decide +kernel
theorem dX8_worstAt_28 : decode cX8_worstAt 28 = .ok (.ishr, 1) := by decide +kernel
theorem dX8_worstAt_29 : decode cX8_worstAt 29 = .ok (.iconst 1, 1) := by decide +kernel
theorem dX8_worstAt_30 : decode cX8_worstAt 30 = .ok (.iand, 1) := by decide +kernel
theorem dX8_worstAt_31 : decode cX8_worstAt 31 = .ok (.iconst 1, 1) := by decide +kernel
theorem dX8_worstAt_32 : decode cX8_worstAt 32 = .ok (.if_icmp .ne 56, 3) := by decide +kernel
theorem dX8_worstAt_35 : decode cX8_worstAt 35 = .ok (.iload 5, 2) := by decide +kernel
theorem dX8_worstAt_37 : decode cX8_worstAt 37 = .ok (.iload_n 1, 1) := by decide +kernel
theorem dX8_worstAt_38 : decode cX8_worstAt 38 = .ok (.iload 6, 2) := by decide +kernel
theorem dX8_worstAt_40 : decode cX8_worstAt 40 = .ok (.ishr, 1) := by decide +kernel
theorem dX8_worstAt_41 : decode cX8_worstAt 41 = .ok (.iconst 1, 1) := by decide +kernel
theorem dX8_worstAt_42 : decode cX8_worstAt 42 = .ok (.iand, 1) := by decide +kernel
theorem dX8_worstAt_43 : decode cX8_worstAt 43 = .ok (.iconst 1, 1) := by decide +kernel
theorem dX8_worstAt_44 : decode cX8_worstAt 44 = .ok (.if_icmp .ne 34, 3) := by decide +kernel
theorem dX8_worstAt_47 : decode cX8_worstAt 47 = .ok (.aload_n 0, 1) := by decide +kernel
theorem dX8_worstAt_48 : decode cX8_worstAt 48 = .ok (.getfield 35, 3) := by decide +kernel
theorem dX8_worstAt_51 : decode cX8_worstAt 51 = .ok (.bipush 41, 2) := by decide +kernel
theorem dX8_worstAt_53 : decode cX8_worstAt 53 = .ok (.iload 4, 2) := by decide +kernel
theorem dX8_worstAt_55 : decode cX8_worstAt 55 = .ok (.imul, 1) := by decide +kernel
theorem dX8_worstAt_56 : decode cX8_worstAt 56 = .ok (.iload_n 2, 1) := by decide +kernel
theorem dX8_worstAt_57 : decode cX8_worstAt 57 = .ok (.iadd, 1) := by decide +kernel
theorem dX8_worstAt_58 : decode cX8_worstAt 58 = .ok (.iaload, 1) := by decide +kernel
theorem dX8_worstAt_59 : decode cX8_worstAt 59 = .ok (.aload_n 0, 1) := by decide +kernel
theorem dX8_worstAt_60 : decode cX8_worstAt 60 = .ok (.getfield 35, 3) := by decide +kernel
theorem dX8_worstAt_63 : decode cX8_worstAt 63 = .ok (.bipush 41, 2) := by decide +kernel
theorem dX8_worstAt_65 : decode cX8_worstAt 65 = .ok (.iload 6, 2) := by decide +kernel
theorem dX8_worstAt_67 : decode cX8_worstAt 67 = .ok (.imul, 1) := by decide +kernel
theorem dX8_worstAt_68 : decode cX8_worstAt 68 = .ok (.iload_n 2, 1) := by decide +kernel
theorem dX8_worstAt_69 : decode cX8_worstAt 69 = .ok (.iadd, 1) := by decide +kernel
theorem dX8_worstAt_70 : decode cX8_worstAt 70 = .ok (.iaload, 1) := by decide +kernel
theorem dX8_worstAt_71 : decode cX8_worstAt 71 = .ok (.if_icmp .ne 7, 3) := by decide +kernel
theorem dX8_worstAt_74 : decode cX8_worstAt 74 = .ok (.iconst 1, 1) := by decide +kernel
theorem dX8_worstAt_75 : decode cX8_worstAt 75 = .ok (.goto 4, 3) := by decide +kernel
theorem dX8_worstAt_78 : decode cX8_worstAt 78 = .ok (.iconst 0, 1) := by decide +kernel
theorem dX8_worstAt_79 : decode cX8_worstAt 79 = .ok (.iadd, 1) := by decide +kernel
theorem dX8_worstAt_80 : decode cX8_worstAt 80 = .ok (.istore 5, 2) := by decide +kernel
theorem dX8_worstAt_82 : decode cX8_worstAt 82 = .ok (.iinc 6 1, 3) := by decide +kernel
theorem dX8_worstAt_85 : decode cX8_worstAt 85 = .ok (.goto (-67), 3) := by decide +kernel
theorem dX8_worstAt_88 : decode cX8_worstAt 88 = .ok (.iload 5, 2) := by decide +kernel
theorem dX8_worstAt_90 : decode cX8_worstAt 90 = .ok (.iload_n 3, 1) := by decide +kernel
theorem dX8_worstAt_91 : decode cX8_worstAt 91 = .ok (.if_icmp .le 8, 3) := by decide +kernel
theorem dX8_worstAt_94 : decode cX8_worstAt 94 = .ok (.iload 5, 2) := by decide +kernel
theorem dX8_worstAt_96 : decode cX8_worstAt 96 = .ok (.goto 4, 3) := by decide +kernel
theorem dX8_worstAt_99 : decode cX8_worstAt 99 = .ok (.iload_n 3, 1) := by decide +kernel
theorem dX8_worstAt_100 : decode cX8_worstAt 100 = .ok (.istore_n 3, 1) := by decide +kernel
theorem dX8_worstAt_101 : decode cX8_worstAt 101 = .ok (.iinc 4 1, 3) := by decide +kernel
theorem dX8_worstAt_104 : decode cX8_worstAt 104 = .ok (.goto (-99), 3) := by decide +kernel
theorem dX8_worstAt_107 : decode cX8_worstAt 107 = .ok (.iload_n 3, 1) := by decide +kernel
theorem dX8_worstAt_108 : decode cX8_worstAt 108 = .ok (.ireturn, 1) := by decide +kernel
set_option maxRecDepth 20000 in
theorem ggX8_ask_X8_isDoor : GoodIn wsX8_ask wsX8_isDoor := goodIn_r _ [5, 6, 7, 8, 4, 9, 64, 65, 66, 67, 68, 69, 70, 71, 72, 73, 74, 75, 76, 77, 78, 79, 80, 81, 82, 83, 84, 85, 86, 87, 88, 89, 90] (by decide +kernel) (by decide +kernel)
set_option maxRecDepth 20000 in
theorem gX8_ask_X8_isDoor : GoodIn wsX8_ask (wsV RX8 150 RX8 yX8_isDoor wsX8_isDoor) := goodIn_app (goodIn_of _ (by decide +kernel)) ggX8_ask_X8_isDoor
set_option maxRecDepth 20000 in
theorem ggX8_ask_X8_in : GoodIn wsX8_ask wsX8_in := goodIn_r _ [9] (by decide +kernel) (by decide +kernel)
set_option maxRecDepth 20000 in
theorem gX8_ask_X8_in : GoodIn wsX8_ask (va_wsS RX8 53 yX8_in wsX8_in) := goodIn_app (goodIn_of _ (by decide +kernel)) ggX8_ask_X8_in
set_option maxRecDepth 20000 in
theorem ggX8_ask_X8_ratesOf : GoodIn wsX8_ask wsX8_ratesOf := goodIn_r _ [13, 6, 14, 15, 16, 4, 17, 18, 19, 20, 21, 22, 23, 24, 25, 26, 27, 28, 29, 30, 31, 32, 33, 34, 35, 36, 37, 38, 39, 40, 41, 42, 43, 44, 45, 46, 47, 48, 49, 50, 51, 52, 53, 54, 55, 56, 57, 58, 59, 64, 65, 66, 67, 68, 69, 70, 71, 72, 73, 74, 75, 76, 77, 78, 79, 80, 81, 82, 83, 84, 85, 86, 87, 88, 89, 90] (by decide +kernel) (by decide +kernel)
set_option maxRecDepth 20000 in
theorem gX8_ask_X8_ratesOf : GoodIn wsX8_ask (wsV RX8 221 RX8 yX8_ratesOf wsX8_ratesOf) := goodIn_app (goodIn_of _ (by decide +kernel)) ggX8_ask_X8_ratesOf
set_option maxRecDepth 20000 in
theorem ggX8_ask_X8_worstAt : GoodIn wsX8_ask wsX8_worstAt := goodIn_r _ [63, 22, 64, 65, 66, 67, 68, 69, 70, 71, 72, 73, 74, 75, 76, 77, 78, 79, 80, 81, 82, 83, 84, 85, 86, 87, 88, 89, 90] (by decide +kernel) (by decide +kernel)
set_option maxRecDepth 20000 in
theorem gX8_ask_X8_worstAt : GoodIn wsX8_ask (wsV RX8 224 RX8 yX8_worstAt wsX8_worstAt) := goodIn_app (goodIn_of _ (by decide +kernel)) ggX8_ask_X8_worstAt
theorem dX8_ask_0 : decode cX8_ask 0 = .ok (.aload_n 0, 1) := by decide +kernel
theorem dX8_ask_1 : decode cX8_ask 1 = .ok (.iload_n 1, 1) := by decide +kernel
theorem dX8_ask_2 : decode cX8_ask 2 = .ok (.invokevirtual 150, 3) := by decide +kernel
theorem dX8_ask_5 : decode cX8_ask 5 = .ok (.ifCond .eq 13, 3) := by decide +kernel
theorem dX8_ask_8 : decode cX8_ask 8 = .ok (.iload_n 2, 1) := by decide +kernel
theorem dX8_ask_9 : decode cX8_ask 9 = .ok (.i2l, 1) := by decide +kernel
theorem dX8_ask_10 : decode cX8_ask 10 = .ok (.lconst 0, 1) := by decide +kernel
theorem dX8_ask_11 : decode cX8_ask 11 = .ok (.lconst 1, 1) := by decide +kernel
theorem dX8_ask_12 : decode cX8_ask 12 = .ok (.invokestatic 53, 3) := by decide +kernel
theorem dX8_ask_15 : decode cX8_ask 15 = .ok (.ifCond .ne 5, 3) := by decide +kernel
theorem dX8_ask_18 : decode cX8_ask 18 = .ok (.iconst (-1), 1) := by decide +kernel
theorem dX8_ask_19 : decode cX8_ask 19 = .ok (.ireturn, 1) := by decide +kernel
theorem dX8_ask_20 : decode cX8_ask 20 = .ok (.aload_n 0, 1) := by decide +kernel
theorem dX8_ask_21 : decode cX8_ask 21 = .ok (.iload_n 1, 1) := by decide +kernel
theorem dX8_ask_22 : decode cX8_ask 22 = .ok (.invokevirtual 221, 3) := by decide +kernel
theorem dX8_ask_25 : decode cX8_ask 25 = .ok (.istore_n 3, 1) := by decide +kernel
theorem dX8_ask_26 : decode cX8_ask 26 = .ok (.iconst 0, 1) := by decide +kernel
theorem dX8_ask_27 : decode cX8_ask 27 = .ok (.istore 4, 2) := by decide +kernel
theorem dX8_ask_29 : decode cX8_ask 29 = .ok (.iconst 0, 1) := by decide +kernel
theorem dX8_ask_30 : decode cX8_ask 30 = .ok (.istore 5, 2) := by decide +kernel
theorem dX8_ask_32 : decode cX8_ask 32 = .ok (.iload 5, 2) := by decide +kernel
theorem dX8_ask_34 : decode cX8_ask 34 = .ok (.bipush 9, 2) := by decide +kernel
theorem dX8_ask_36 : decode cX8_ask 36 = .ok (.if_icmp .gt 20, 3) := by decide +kernel
theorem dX8_ask_39 : decode cX8_ask 39 = .ok (.iload 4, 2) := by decide +kernel
theorem dX8_ask_41 : decode cX8_ask 41 = .ok (.iload_n 3, 1) := by decide +kernel
theorem dX8_ask_42 : decode cX8_ask 42 = .ok (.iload 5, 2) := by decide +kernel
theorem dX8_ask_44 : decode cX8_ask 44 = .ok (.ishr, 1) := by decide +kernel
theorem dX8_ask_45 : decode cX8_ask 45 = .ok (.iconst 1, 1) := by decide +kernel
theorem dX8_ask_46 : decode cX8_ask 46 = .ok (.iand, 1) := by decide +kernel
theorem dX8_ask_47 : decode cX8_ask 47 = .ok (.iadd, 1) := by decide +kernel
theorem dX8_ask_48 : decode cX8_ask 48 = .ok (.istore 4, 2) := by decide +kernel
theorem dX8_ask_50 : decode cX8_ask 50 = .ok (.iinc 5 1, 3) := by decide +kernel
theorem dX8_ask_53 : decode cX8_ask 53 = .ok (.goto (-21), 3) := by decide +kernel
theorem dX8_ask_56 : decode cX8_ask 56 = .ok (.bipush (-4), 2) := by decide +kernel
theorem dX8_ask_58 : decode cX8_ask 58 = .ok (.istore 5, 2) := by decide +kernel
theorem dX8_ask_60 : decode cX8_ask 60 = .ok (.iconst 0, 1) := by decide +kernel
theorem dX8_ask_61 : decode cX8_ask 61 = .ok (.istore 6, 2) := by decide +kernel
theorem dX8_ask_63 : decode cX8_ask 63 = .ok (.iload 6, 2) := by decide +kernel
theorem dX8_ask_65 : decode cX8_ask 65 = .ok (.bipush 40, 2) := by decide +kernel
theorem dX8_ask_67 : decode cX8_ask 67 = .ok (.if_icmp .gt 50, 3) := by decide +kernel
theorem dX8_ask_70 : decode cX8_ask 70 = .ok (.aload_n 0, 1) := by decide +kernel
theorem dX8_ask_71 : decode cX8_ask 71 = .ok (.iload_n 3, 1) := by decide +kernel
theorem dX8_ask_72 : decode cX8_ask 72 = .ok (.iload 6, 2) := by decide +kernel
theorem dX8_ask_74 : decode cX8_ask 74 = .ok (.invokevirtual 224, 3) := by decide +kernel
theorem dX8_ask_77 : decode cX8_ask 77 = .ok (.istore 7, 2) := by decide +kernel
theorem dX8_ask_79 : decode cX8_ask 79 = .ok (.iload 7, 2) := by decide +kernel
theorem dX8_ask_81 : decode cX8_ask 81 = .ok (.iload 4, 2) := by decide +kernel
theorem dX8_ask_83 : decode cX8_ask 83 = .ok (.if_icmp .ge 8, 3) := by decide +kernel
theorem dX8_ask_86 : decode cX8_ask 86 = .ok (.iload 6, 2) := by decide +kernel
theorem dX8_ask_88 : decode cX8_ask 88 = .ok (.goto 5, 3) := by decide +kernel
theorem dX8_ask_91 : decode cX8_ask 91 = .ok (.iload 5, 2) := by decide +kernel
theorem dX8_ask_93 : decode cX8_ask 93 = .ok (.istore 5, 2) := by decide +kernel
theorem dX8_ask_95 : decode cX8_ask 95 = .ok (.iload 7, 2) := by decide +kernel
theorem dX8_ask_97 : decode cX8_ask 97 = .ok (.iload 4, 2) := by decide +kernel
theorem dX8_ask_99 : decode cX8_ask 99 = .ok (.if_icmp .ge 8, 3) := by decide +kernel
theorem dX8_ask_102 : decode cX8_ask 102 = .ok (.iload 7, 2) := by decide +kernel
theorem dX8_ask_104 : decode cX8_ask 104 = .ok (.goto 5, 3) := by decide +kernel
theorem dX8_ask_107 : decode cX8_ask 107 = .ok (.iload 4, 2) := by decide +kernel
theorem dX8_ask_109 : decode cX8_ask 109 = .ok (.istore 4, 2) := by decide +kernel
theorem dX8_ask_111 : decode cX8_ask 111 = .ok (.iinc 6 1, 3) := by decide +kernel
theorem dX8_ask_114 : decode cX8_ask 114 = .ok (.goto (-51), 3) := by decide +kernel
theorem dX8_ask_117 : decode cX8_ask 117 = .ok (.iload 5, 2) := by decide +kernel
theorem dX8_ask_119 : decode cX8_ask 119 = .ok (.bipush (-4), 2) := by decide +kernel
theorem dX8_ask_121 : decode cX8_ask 121 = .ok (.if_icmp .eq 7, 3) := by decide +kernel
theorem dX8_ask_124 : decode cX8_ask 124 = .ok (.iload_n 2, 1) := by decide +kernel
theorem dX8_ask_125 : decode cX8_ask 125 = .ok (.ifCond .ne 8, 3) := by decide +kernel
theorem dX8_ask_128 : decode cX8_ask 128 = .ok (.iload 5, 2) := by decide +kernel
theorem dX8_ask_130 : decode cX8_ask 130 = .ok (.goto 5, 3) := by decide +kernel
theorem dX8_ask_133 : decode cX8_ask 133 = .ok (.iload 4, 2) := by decide +kernel
theorem dX8_ask_135 : decode cX8_ask 135 = .ok (.ireturn, 1) := by decide +kernel
set_option maxRecDepth 20000 in
theorem ggX8_drift_X8_in : GoodIn wsX8_drift wsX8_in := goodIn_r _ [9] (by decide +kernel) (by decide +kernel)
set_option maxRecDepth 20000 in
theorem gX8_drift_X8_in : GoodIn wsX8_drift (va_wsS RX8 53 yX8_in wsX8_in) := goodIn_app (goodIn_of _ (by decide +kernel)) ggX8_drift_X8_in
set_option maxRecDepth 20000 in
theorem ggX8_drift_X8_copies : GoodIn wsX8_drift wsX8_copies := goodIn_r _ [13, 2, 39, 40, 41, 42, 43, 44, 45, 46, 47, 48, 49, 50, 51, 52, 53, 54, 55, 56, 57, 58, 59, 60, 61, 62, 63, 64, 65] (by decide +kernel) (by decide +kernel)
set_option maxRecDepth 20000 in
theorem gX8_drift_X8_copies : GoodIn wsX8_drift (wsV RX8 186 RX8 yX8_copies wsX8_copies) := goodIn_app (goodIn_of _ (by decide +kernel)) ggX8_drift_X8_copies
set_option maxRecDepth 20000 in
theorem ggX8_drift_X8_starts : GoodIn wsX8_drift wsX8_starts := goodIn_r _ [17, 4, 5, 18, 19, 20, 39, 40, 41, 42, 43, 44, 45, 46, 47, 48, 49, 50, 51, 52, 53, 54, 55, 56, 57, 58, 59, 60, 61, 62, 63, 64, 65] (by decide +kernel) (by decide +kernel)
set_option maxRecDepth 20000 in
theorem gX8_drift_X8_starts : GoodIn wsX8_drift (wsV RX8 180 RX8 yX8_starts wsX8_starts) := goodIn_app (goodIn_of _ (by decide +kernel)) ggX8_drift_X8_starts
set_option maxRecDepth 20000 in
theorem ggX8_drift_X8_tickOn : GoodIn wsX8_drift wsX8_tickOn := goodIn_r _ [24, 4, 5, 2, 25, 18, 19, 26, 27, 28, 8, 29, 20, 30, 31, 32, 33, 34, 35, 36, 37, 38, 39, 40, 41, 42, 43, 44, 45, 46, 47, 48, 49, 50, 51, 52, 53, 54, 55, 56, 57, 58, 59, 60, 61, 62, 63, 64, 65] (by decide +kernel) (by decide +kernel)
set_option maxRecDepth 20000 in
theorem gX8_drift_X8_tickOn : GoodIn wsX8_drift (wsV RX8 147 RX8 yX8_tickOn wsX8_tickOn) := goodIn_app (goodIn_of _ (by decide +kernel)) ggX8_drift_X8_tickOn
theorem dX8_drift_0 : decode cX8_drift 0 = .ok (.iload_n 2, 1) := by decide +kernel
theorem dX8_drift_1 : decode cX8_drift 1 = .ok (.i2l, 1) := by decide +kernel
theorem dX8_drift_2 : decode cX8_drift 2 = .ok (.lconst 1, 1) := by decide +kernel
theorem dX8_drift_3 : decode cX8_drift 3 = .ok (.ldc2_w 119, 3) := by decide +kernel
theorem dX8_drift_6 : decode cX8_drift 6 = .ok (.invokestatic 53, 3) := by decide +kernel
theorem dX8_drift_9 : decode cX8_drift 9 = .ok (.ifCond .eq 13, 3) := by decide +kernel
theorem dX8_drift_12 : decode cX8_drift 12 = .ok (.iload_n 3, 1) := by decide +kernel
theorem dX8_drift_13 : decode cX8_drift 13 = .ok (.i2l, 1) := by decide +kernel
theorem dX8_drift_14 : decode cX8_drift 14 = .ok (.lconst 0, 1) := by decide +kernel
theorem dX8_drift_15 : decode cX8_drift 15 = .ok (.lconst 1, 1) := by decide +kernel
theorem dX8_drift_16 : decode cX8_drift 16 = .ok (.invokestatic 53, 3) := by decide +kernel
theorem dX8_drift_19 : decode cX8_drift 19 = .ok (.ifCond .ne 5, 3) := by decide +kernel
theorem dX8_drift_22 : decode cX8_drift 22 = .ok (.iconst (-1), 1) := by decide +kernel
theorem dX8_drift_23 : decode cX8_drift 23 = .ok (.ireturn, 1) := by decide +kernel
theorem dX8_drift_24 : decode cX8_drift 24 = .ok (.aload_n 0, 1) := by decide +kernel
theorem dX8_drift_25 : decode cX8_drift 25 = .ok (.getfield 7, 3) := by decide +kernel
theorem dX8_drift_28 : decode cX8_drift 28 = .ok (.bipush 16, 2) := by decide +kernel
theorem dX8_drift_30 : decode cX8_drift 30 = .ok (.iaload, 1) := by decide +kernel
theorem dX8_drift_31 : decode cX8_drift 31 = .ok (.ifCond .ne 6, 3) := by decide +kernel
theorem dX8_drift_34 : decode cX8_drift 34 = .ok (.bipush (-2), 2) := by decide +kernel
theorem dX8_drift_36 : decode cX8_drift 36 = .ok (.ireturn, 1) := by decide +kernel
theorem dX8_drift_37 : decode cX8_drift 37 = .ok (.aload_n 0, 1) := by decide +kernel
theorem dX8_drift_38 : decode cX8_drift 38 = .ok (.iconst 0, 1) := by decide +kernel
theorem dX8_drift_39 : decode cX8_drift 39 = .ok (.sipush 180, 3) := by decide +kernel
theorem dX8_drift_42 : decode cX8_drift 42 = .ok (.invokevirtual 186, 3) := by decide +kernel
theorem dX8_drift_45 : decode cX8_drift 45 = .ok (.aload_n 0, 1) := by decide +kernel
theorem dX8_drift_46 : decode cX8_drift 46 = .ok (.invokevirtual 180, 3) := by decide +kernel
theorem dX8_drift_49 : decode cX8_drift 49 = .ok (.iload_n 1, 1) := by decide +kernel
theorem dX8_drift_50 : decode cX8_drift 50 = .ok (.istore 4, 2) := by decide +kernel
theorem dX8_drift_52 : decode cX8_drift 52 = .ok (.iconst 0, 1) := by decide +kernel
theorem dX8_drift_53 : decode cX8_drift 53 = .ok (.istore 5, 2) := by decide +kernel
theorem dX8_drift_55 : decode cX8_drift 55 = .ok (.iload 5, 2) := by decide +kernel
theorem dX8_drift_57 : decode cX8_drift 57 = .ok (.iload_n 2, 1) := by decide +kernel
theorem dX8_drift_58 : decode cX8_drift 58 = .ok (.if_icmp .ge 40, 3) := by decide +kernel
theorem dX8_drift_61 : decode cX8_drift 61 = .ok (.iload 4, 2) := by decide +kernel
theorem dX8_drift_63 : decode cX8_drift 63 = .ok (.ldc 227, 2) := by decide +kernel
theorem dX8_drift_65 : decode cX8_drift 65 = .ok (.imul, 1) := by decide +kernel
theorem dX8_drift_66 : decode cX8_drift 66 = .ok (.sipush 12345, 3) := by decide +kernel
theorem dX8_drift_69 : decode cX8_drift 69 = .ok (.iadd, 1) := by decide +kernel
theorem dX8_drift_70 : decode cX8_drift 70 = .ok (.istore 4, 2) := by decide +kernel
theorem dX8_drift_72 : decode cX8_drift 72 = .ok (.aload_n 0, 1) := by decide +kernel
theorem dX8_drift_73 : decode cX8_drift 73 = .ok (.sipush 180, 3) := by decide +kernel
theorem dX8_drift_76 : decode cX8_drift 76 = .ok (.iload 4, 2) := by decide +kernel
theorem dX8_drift_78 : decode cX8_drift 78 = .ok (.bipush 16, 2) := by decide +kernel
theorem dX8_drift_80 : decode cX8_drift 80 = .ok (.ishr, 1) := by decide +kernel
theorem dX8_drift_81 : decode cX8_drift 81 = .ok (.sipush 32767, 3) := by decide +kernel
theorem dX8_drift_84 : decode cX8_drift 84 = .ok (.iand, 1) := by decide +kernel
theorem dX8_drift_85 : decode cX8_drift 85 = .ok (.bipush 10, 2) := by decide +kernel
theorem dX8_drift_87 : decode cX8_drift 87 = .ok (.irem, 1) := by decide +kernel
theorem dX8_drift_88 : decode cX8_drift 88 = .ok (.invokevirtual 147, 3) := by decide +kernel
theorem dX8_drift_91 : decode cX8_drift 91 = .ok (.pop, 1) := by decide +kernel
theorem dX8_drift_92 : decode cX8_drift 92 = .ok (.iinc 5 1, 3) := by decide +kernel
theorem dX8_drift_95 : decode cX8_drift 95 = .ok (.goto (-40), 3) := by decide +kernel
theorem dX8_drift_98 : decode cX8_drift 98 = .ok (.iload_n 3, 1) := by decide +kernel
theorem dX8_drift_99 : decode cX8_drift 99 = .ok (.ifCond .ne 10, 3) := by decide +kernel
theorem dX8_drift_102 : decode cX8_drift 102 = .ok (.aload_n 0, 1) := by decide +kernel
theorem dX8_drift_103 : decode cX8_drift 103 = .ok (.getfield 121, 3) := by decide +kernel
theorem dX8_drift_106 : decode cX8_drift 106 = .ok (.goto 7, 3) := by decide +kernel
theorem dX8_drift_109 : decode cX8_drift 109 = .ok (.aload_n 0, 1) := by decide +kernel
theorem dX8_drift_110 : decode cX8_drift 110 = .ok (.getfield 124, 3) := by decide +kernel
theorem dX8_drift_113 : decode cX8_drift 113 = .ok (.ireturn, 1) := by decide +kernel
set_option maxRecDepth 20000 in
theorem ggX8_keep_X8_in : GoodIn wsX8_keep wsX8_in := goodIn_r _ [5] (by decide +kernel) (by decide +kernel)
set_option maxRecDepth 20000 in
theorem gX8_keep_X8_in : GoodIn wsX8_keep (va_wsS RX8 53 yX8_in wsX8_in) := goodIn_app (goodIn_of _ (by decide +kernel)) ggX8_keep_X8_in
set_option maxRecDepth 20000 in
theorem ggX8_keep_X8_copies : GoodIn wsX8_keep wsX8_copies := goodIn_r _ [9, 10, 11, 12, 13, 14, 15, 16, 17, 18, 19, 20, 21, 22, 23, 24, 25, 26, 27, 28, 29, 30, 31, 32, 33, 34, 35, 36, 37] (by decide +kernel) (by decide +kernel)
set_option maxRecDepth 20000 in
theorem gX8_keep_X8_copies : GoodIn wsX8_keep (wsV RX8 186 RX8 yX8_copies wsX8_copies) := goodIn_app (goodIn_of _ (by decide +kernel)) ggX8_keep_X8_copies
theorem dX8_keep_0 : decode cX8_keep 0 = .ok (.iload_n 1, 1) := by decide +kernel
theorem dX8_keep_1 : decode cX8_keep 1 = .ok (.i2l, 1) := by decide +kernel
theorem dX8_keep_2 : decode cX8_keep 2 = .ok (.lconst 0, 1) := by decide +kernel
theorem dX8_keep_3 : decode cX8_keep 3 = .ok (.lconst 1, 1) := by decide +kernel
theorem dX8_keep_4 : decode cX8_keep 4 = .ok (.invokestatic 53, 3) := by decide +kernel
theorem dX8_keep_7 : decode cX8_keep 7 = .ok (.ifCond .ne 5, 3) := by decide +kernel
theorem dX8_keep_10 : decode cX8_keep 10 = .ok (.iconst (-1), 1) := by decide +kernel
theorem dX8_keep_11 : decode cX8_keep 11 = .ok (.ireturn, 1) := by decide +kernel
theorem dX8_keep_12 : decode cX8_keep 12 = .ok (.aload_n 0, 1) := by decide +kernel
theorem dX8_keep_13 : decode cX8_keep 13 = .ok (.iconst 0, 1) := by decide +kernel
theorem dX8_keep_14 : decode cX8_keep 14 = .ok (.bipush 45, 2) := by decide +kernel
theorem dX8_keep_16 : decode cX8_keep 16 = .ok (.iload_n 1, 1) := by decide +kernel
theorem dX8_keep_17 : decode cX8_keep 17 = .ok (.iconst 1, 1) := by decide +kernel
theorem dX8_keep_18 : decode cX8_keep 18 = .ok (.iadd, 1) := by decide +kernel
theorem dX8_keep_19 : decode cX8_keep 19 = .ok (.imul, 1) := by decide +kernel
theorem dX8_keep_20 : decode cX8_keep 20 = .ok (.invokevirtual 186, 3) := by decide +kernel
theorem dX8_keep_23 : decode cX8_keep 23 = .ok (.aload_n 0, 1) := by decide +kernel
theorem dX8_keep_24 : decode cX8_keep 24 = .ok (.getfield 38, 3) := by decide +kernel
theorem dX8_keep_27 : decode cX8_keep 27 = .ok (.iload_n 1, 1) := by decide +kernel
theorem dX8_keep_28 : decode cX8_keep 28 = .ok (.baload, 1) := by decide +kernel
theorem dX8_keep_29 : decode cX8_keep 29 = .ok (.ifCond .eq 7, 3) := by decide +kernel
theorem dX8_keep_32 : decode cX8_keep 32 = .ok (.iconst 1, 1) := by decide +kernel
theorem dX8_keep_33 : decode cX8_keep 33 = .ok (.goto 4, 3) := by decide +kernel
theorem dX8_keep_36 : decode cX8_keep 36 = .ok (.iconst 0, 1) := by decide +kernel
theorem dX8_keep_37 : decode cX8_keep 37 = .ok (.istore_n 2, 1) := by decide +kernel
theorem dX8_keep_38 : decode cX8_keep 38 = .ok (.aload_n 0, 1) := by decide +kernel
theorem dX8_keep_39 : decode cX8_keep 39 = .ok (.getfield 38, 3) := by decide +kernel
theorem dX8_keep_42 : decode cX8_keep 42 = .ok (.iload_n 1, 1) := by decide +kernel
theorem dX8_keep_43 : decode cX8_keep 43 = .ok (.iconst 1, 1) := by decide +kernel
theorem dX8_keep_44 : decode cX8_keep 44 = .ok (.bastore, 1) := by decide +kernel
theorem dX8_keep_45 : decode cX8_keep 45 = .ok (.iload_n 2, 1) := by decide +kernel
theorem dX8_keep_46 : decode cX8_keep 46 = .ok (.ireturn, 1) := by decide +kernel
set_option maxRecDepth 20000 in
theorem ggX8_back_X8_in : GoodIn wsX8_back wsX8_in := goodIn_r _ [6] (by decide +kernel) (by decide +kernel)
set_option maxRecDepth 20000 in
theorem gX8_back_X8_in : GoodIn wsX8_back (va_wsS RX8 53 yX8_in wsX8_in) := goodIn_app (goodIn_of _ (by decide +kernel)) ggX8_back_X8_in
set_option maxRecDepth 20000 in
theorem ggX8_back_X8_copies : GoodIn wsX8_back wsX8_copies := goodIn_r _ [10, 2, 11, 12, 13, 14, 15, 16, 17, 18, 19, 20, 21, 22, 23, 24, 25, 26, 27, 28, 29, 30, 31, 32, 33, 34, 35, 36, 37] (by decide +kernel) (by decide +kernel)
set_option maxRecDepth 20000 in
theorem gX8_back_X8_copies : GoodIn wsX8_back (wsV RX8 186 RX8 yX8_copies wsX8_copies) := goodIn_app (goodIn_of _ (by decide +kernel)) ggX8_back_X8_copies
theorem dX8_back_0 : decode cX8_back 0 = .ok (.iload_n 1, 1) := by decide +kernel
theorem dX8_back_1 : decode cX8_back 1 = .ok (.i2l, 1) := by decide +kernel
theorem dX8_back_2 : decode cX8_back 2 = .ok (.lconst 0, 1) := by decide +kernel
theorem dX8_back_3 : decode cX8_back 3 = .ok (.lconst 1, 1) := by decide +kernel
theorem dX8_back_4 : decode cX8_back 4 = .ok (.invokestatic 53, 3) := by decide +kernel
theorem dX8_back_7 : decode cX8_back 7 = .ok (.ifCond .ne 5, 3) := by decide +kernel
theorem dX8_back_10 : decode cX8_back 10 = .ok (.iconst (-1), 1) := by decide +kernel
theorem dX8_back_11 : decode cX8_back 11 = .ok (.ireturn, 1) := by decide +kernel
theorem dX8_back_12 : decode cX8_back 12 = .ok (.aload_n 0, 1) := by decide +kernel
theorem dX8_back_13 : decode cX8_back 13 = .ok (.getfield 38, 3) := by decide +kernel
theorem dX8_back_16 : decode cX8_back 16 = .ok (.iload_n 1, 1) := by decide +kernel
theorem dX8_back_17 : decode cX8_back 17 = .ok (.baload, 1) := by decide +kernel
theorem dX8_back_18 : decode cX8_back 18 = .ok (.ifCond .ne 6, 3) := by decide +kernel
theorem dX8_back_21 : decode cX8_back 21 = .ok (.bipush (-2), 2) := by decide +kernel
theorem dX8_back_23 : decode cX8_back 23 = .ok (.ireturn, 1) := by decide +kernel
theorem dX8_back_24 : decode cX8_back 24 = .ok (.aload_n 0, 1) := by decide +kernel
theorem dX8_back_25 : decode cX8_back 25 = .ok (.bipush 45, 2) := by decide +kernel
theorem dX8_back_27 : decode cX8_back 27 = .ok (.iload_n 1, 1) := by decide +kernel
theorem dX8_back_28 : decode cX8_back 28 = .ok (.iconst 1, 1) := by decide +kernel
theorem dX8_back_29 : decode cX8_back 29 = .ok (.iadd, 1) := by decide +kernel
theorem dX8_back_30 : decode cX8_back 30 = .ok (.imul, 1) := by decide +kernel
theorem dX8_back_31 : decode cX8_back 31 = .ok (.iconst 0, 1) := by decide +kernel
theorem dX8_back_32 : decode cX8_back 32 = .ok (.invokevirtual 186, 3) := by decide +kernel
theorem dX8_back_35 : decode cX8_back 35 = .ok (.aload_n 0, 1) := by decide +kernel
theorem dX8_back_36 : decode cX8_back 36 = .ok (.getfield 7, 3) := by decide +kernel
theorem dX8_back_39 : decode cX8_back 39 = .ok (.bipush 42, 2) := by decide +kernel
theorem dX8_back_41 : decode cX8_back 41 = .ok (.iaload, 1) := by decide +kernel
theorem dX8_back_42 : decode cX8_back 42 = .ok (.ireturn, 1) := by decide +kernel
set_option maxRecDepth 20000 in
theorem ggX8_sheet_X8_in : GoodIn wsX8_sheet wsX8_in := goodIn_r _ [9] (by decide +kernel) (by decide +kernel)
set_option maxRecDepth 20000 in
theorem gX8_sheet_X8_in : GoodIn wsX8_sheet (va_wsS RX8 53 yX8_in wsX8_in) := goodIn_app (goodIn_of _ (by decide +kernel)) ggX8_sheet_X8_in
theorem dX8_sheet_0 : decode cX8_sheet 0 = .ok (.iload_n 1, 1) := by decide +kernel
theorem dX8_sheet_1 : decode cX8_sheet 1 = .ok (.i2l, 1) := by decide +kernel
theorem dX8_sheet_2 : decode cX8_sheet 2 = .ok (.lconst 0, 1) := by decide +kernel
theorem dX8_sheet_3 : decode cX8_sheet 3 = .ok (.ldc2_w 159, 3) := by decide +kernel
theorem dX8_sheet_6 : decode cX8_sheet 6 = .ok (.invokestatic 53, 3) := by decide +kernel
theorem dX8_sheet_9 : decode cX8_sheet 9 = .ok (.ifCond .eq 21, 3) := by decide +kernel
theorem dX8_sheet_12 : decode cX8_sheet 12 = .ok (.iload_n 2, 1) := by decide +kernel
theorem dX8_sheet_13 : decode cX8_sheet 13 = .ok (.i2l, 1) := by decide +kernel
theorem dX8_sheet_14 : decode cX8_sheet 14 = .ok (.lconst 0, 1) := by decide +kernel
theorem dX8_sheet_15 : decode cX8_sheet 15 = .ok (.ldc2_w 157, 3) := by decide +kernel
theorem dX8_sheet_18 : decode cX8_sheet 18 = .ok (.invokestatic 53, 3) := by decide +kernel
theorem dX8_sheet_21 : decode cX8_sheet 21 = .ok (.ifCond .eq 9, 3) := by decide +kernel
theorem dX8_sheet_24 : decode cX8_sheet 24 = .ok (.iload_n 3, 1) := by decide +kernel
theorem dX8_sheet_25 : decode cX8_sheet 25 = .ok (.bipush 40, 2) := by decide +kernel
theorem dX8_sheet_27 : decode cX8_sheet 27 = .ok (.if_icmp .le 5, 3) := by decide +kernel
theorem dX8_sheet_30 : decode cX8_sheet 30 = .ok (.iconst (-1), 1) := by decide +kernel
theorem dX8_sheet_31 : decode cX8_sheet 31 = .ok (.ireturn, 1) := by decide +kernel
theorem dX8_sheet_32 : decode cX8_sheet 32 = .ok (.iload_n 3, 1) := by decide +kernel
theorem dX8_sheet_33 : decode cX8_sheet 33 = .ok (.ifCond .ge 6, 3) := by decide +kernel
theorem dX8_sheet_36 : decode cX8_sheet 36 = .ok (.bipush (-14), 2) := by decide +kernel
theorem dX8_sheet_38 : decode cX8_sheet 38 = .ok (.ireturn, 1) := by decide +kernel
theorem dX8_sheet_39 : decode cX8_sheet 39 = .ok (.aload_n 0, 1) := by decide +kernel
theorem dX8_sheet_40 : decode cX8_sheet 40 = .ok (.getfield 42, 3) := by decide +kernel
theorem dX8_sheet_43 : decode cX8_sheet 43 = .ok (.iload_n 1, 1) := by decide +kernel
theorem dX8_sheet_44 : decode cX8_sheet 44 = .ok (.iload_n 2, 1) := by decide +kernel
theorem dX8_sheet_45 : decode cX8_sheet 45 = .ok (.iastore, 1) := by decide +kernel
theorem dX8_sheet_46 : decode cX8_sheet 46 = .ok (.aload_n 0, 1) := by decide +kernel
theorem dX8_sheet_47 : decode cX8_sheet 47 = .ok (.getfield 45, 3) := by decide +kernel
theorem dX8_sheet_50 : decode cX8_sheet 50 = .ok (.iload_n 1, 1) := by decide +kernel
theorem dX8_sheet_51 : decode cX8_sheet 51 = .ok (.iload_n 3, 1) := by decide +kernel
theorem dX8_sheet_52 : decode cX8_sheet 52 = .ok (.iastore, 1) := by decide +kernel
theorem dX8_sheet_53 : decode cX8_sheet 53 = .ok (.iconst 0, 1) := by decide +kernel
theorem dX8_sheet_54 : decode cX8_sheet 54 = .ok (.istore 4, 2) := by decide +kernel
theorem dX8_sheet_56 : decode cX8_sheet 56 = .ok (.iload 4, 2) := by decide +kernel
theorem dX8_sheet_58 : decode cX8_sheet 58 = .ok (.bipush 40, 2) := by decide +kernel
theorem dX8_sheet_60 : decode cX8_sheet 60 = .ok (.if_icmp .ge 22, 3) := by decide +kernel
theorem dX8_sheet_63 : decode cX8_sheet 63 = .ok (.aload_n 0, 1) := by decide +kernel
theorem dX8_sheet_64 : decode cX8_sheet 64 = .ok (.getfield 48, 3) := by decide +kernel
theorem dX8_sheet_67 : decode cX8_sheet 67 = .ok (.bipush 40, 2) := by decide +kernel
theorem dX8_sheet_69 : decode cX8_sheet 69 = .ok (.iload_n 1, 1) := by decide +kernel
theorem dX8_sheet_70 : decode cX8_sheet 70 = .ok (.imul, 1) := by decide +kernel
theorem dX8_sheet_71 : decode cX8_sheet 71 = .ok (.iload 4, 2) := by decide +kernel
theorem dX8_sheet_73 : decode cX8_sheet 73 = .ok (.iadd, 1) := by decide +kernel
theorem dX8_sheet_74 : decode cX8_sheet 74 = .ok (.iconst 0, 1) := by decide +kernel
theorem dX8_sheet_75 : decode cX8_sheet 75 = .ok (.iastore, 1) := by decide +kernel
theorem dX8_sheet_76 : decode cX8_sheet 76 = .ok (.iinc 4 1, 3) := by decide +kernel
theorem dX8_sheet_79 : decode cX8_sheet 79 = .ok (.goto (-23), 3) := by decide +kernel
theorem dX8_sheet_82 : decode cX8_sheet 82 = .ok (.iconst 1, 1) := by decide +kernel
theorem dX8_sheet_83 : decode cX8_sheet 83 = .ok (.ireturn, 1) := by decide +kernel
set_option maxRecDepth 20000 in
theorem ggX8_lay_X8_in : GoodIn wsX8_lay wsX8_in := goodIn_r _ [8] (by decide +kernel) (by decide +kernel)
set_option maxRecDepth 20000 in
theorem gX8_lay_X8_in : GoodIn wsX8_lay (va_wsS RX8 53 yX8_in wsX8_in) := goodIn_app (goodIn_of _ (by decide +kernel)) ggX8_lay_X8_in
theorem dX8_lay_0 : decode cX8_lay 0 = .ok (.iload_n 1, 1) := by decide +kernel
theorem dX8_lay_1 : decode cX8_lay 1 = .ok (.i2l, 1) := by decide +kernel
theorem dX8_lay_2 : decode cX8_lay 2 = .ok (.lconst 0, 1) := by decide +kernel
theorem dX8_lay_3 : decode cX8_lay 3 = .ok (.ldc2_w 159, 3) := by decide +kernel
theorem dX8_lay_6 : decode cX8_lay 6 = .ok (.invokestatic 53, 3) := by decide +kernel
theorem dX8_lay_9 : decode cX8_lay 9 = .ok (.ifCond .ne 5, 3) := by decide +kernel
theorem dX8_lay_12 : decode cX8_lay 12 = .ok (.iconst (-1), 1) := by decide +kernel
theorem dX8_lay_13 : decode cX8_lay 13 = .ok (.ireturn, 1) := by decide +kernel
theorem dX8_lay_14 : decode cX8_lay 14 = .ok (.aload_n 0, 1) := by decide +kernel
theorem dX8_lay_15 : decode cX8_lay 15 = .ok (.getfield 42, 3) := by decide +kernel
theorem dX8_lay_18 : decode cX8_lay 18 = .ok (.iload_n 1, 1) := by decide +kernel
theorem dX8_lay_19 : decode cX8_lay 19 = .ok (.iaload, 1) := by decide +kernel
theorem dX8_lay_20 : decode cX8_lay 20 = .ok (.bipush (-4), 2) := by decide +kernel
theorem dX8_lay_22 : decode cX8_lay 22 = .ok (.if_icmp .ne 6, 3) := by decide +kernel
theorem dX8_lay_25 : decode cX8_lay 25 = .ok (.bipush (-11), 2) := by decide +kernel
theorem dX8_lay_27 : decode cX8_lay 27 = .ok (.ireturn, 1) := by decide +kernel
theorem dX8_lay_28 : decode cX8_lay 28 = .ok (.iload_n 2, 1) := by decide +kernel
theorem dX8_lay_29 : decode cX8_lay 29 = .ok (.i2l, 1) := by decide +kernel
theorem dX8_lay_30 : decode cX8_lay 30 = .ok (.lconst 0, 1) := by decide +kernel
theorem dX8_lay_31 : decode cX8_lay 31 = .ok (.aload_n 0, 1) := by decide +kernel
theorem dX8_lay_32 : decode cX8_lay 32 = .ok (.getfield 45, 3) := by decide +kernel
theorem dX8_lay_35 : decode cX8_lay 35 = .ok (.iload_n 1, 1) := by decide +kernel
theorem dX8_lay_36 : decode cX8_lay 36 = .ok (.iaload, 1) := by decide +kernel
theorem dX8_lay_37 : decode cX8_lay 37 = .ok (.iconst 1, 1) := by decide +kernel
theorem dX8_lay_38 : decode cX8_lay 38 = .ok (.isub, 1) := by decide +kernel
theorem dX8_lay_39 : decode cX8_lay 39 = .ok (.i2l, 1) := by decide +kernel
theorem dX8_lay_40 : decode cX8_lay 40 = .ok (.invokestatic 53, 3) := by decide +kernel
theorem dX8_lay_43 : decode cX8_lay 43 = .ok (.ifCond .ne 6, 3) := by decide +kernel
theorem dX8_lay_46 : decode cX8_lay 46 = .ok (.bipush (-12), 2) := by decide +kernel
theorem dX8_lay_48 : decode cX8_lay 48 = .ok (.ireturn, 1) := by decide +kernel
theorem dX8_lay_49 : decode cX8_lay 49 = .ok (.aload_n 0, 1) := by decide +kernel
theorem dX8_lay_50 : decode cX8_lay 50 = .ok (.getfield 48, 3) := by decide +kernel
theorem dX8_lay_53 : decode cX8_lay 53 = .ok (.bipush 40, 2) := by decide +kernel
theorem dX8_lay_55 : decode cX8_lay 55 = .ok (.iload_n 1, 1) := by decide +kernel
theorem dX8_lay_56 : decode cX8_lay 56 = .ok (.imul, 1) := by decide +kernel
theorem dX8_lay_57 : decode cX8_lay 57 = .ok (.iload_n 2, 1) := by decide +kernel
theorem dX8_lay_58 : decode cX8_lay 58 = .ok (.iadd, 1) := by decide +kernel
theorem dX8_lay_59 : decode cX8_lay 59 = .ok (.aload_n 0, 1) := by decide +kernel
theorem dX8_lay_60 : decode cX8_lay 60 = .ok (.getfield 42, 3) := by decide +kernel
theorem dX8_lay_63 : decode cX8_lay 63 = .ok (.iload_n 1, 1) := by decide +kernel
theorem dX8_lay_64 : decode cX8_lay 64 = .ok (.iaload, 1) := by decide +kernel
theorem dX8_lay_65 : decode cX8_lay 65 = .ok (.ifCond .ne 13, 3) := by decide +kernel
theorem dX8_lay_68 : decode cX8_lay 68 = .ok (.iload_n 3, 1) := by decide +kernel
theorem dX8_lay_69 : decode cX8_lay 69 = .ok (.bipush 24, 2) := by decide +kernel
theorem dX8_lay_71 : decode cX8_lay 71 = .ok (.ishl, 1) := by decide +kernel
theorem dX8_lay_72 : decode cX8_lay 72 = .ok (.bipush 24, 2) := by decide +kernel
theorem dX8_lay_74 : decode cX8_lay 74 = .ok (.ishr, 1) := by decide +kernel
theorem dX8_lay_75 : decode cX8_lay 75 = .ok (.goto 24, 3) := by decide +kernel
theorem dX8_lay_78 : decode cX8_lay 78 = .ok (.aload_n 0, 1) := by decide +kernel
theorem dX8_lay_79 : decode cX8_lay 79 = .ok (.getfield 42, 3) := by decide +kernel
theorem dX8_lay_82 : decode cX8_lay 82 = .ok (.iload_n 1, 1) := by decide +kernel
theorem dX8_lay_83 : decode cX8_lay 83 = .ok (.iaload, 1) := by decide +kernel
theorem dX8_lay_84 : decode cX8_lay 84 = .ok (.iconst 1, 1) := by decide +kernel
theorem dX8_lay_85 : decode cX8_lay 85 = .ok (.if_icmp .ne 13, 3) := by decide +kernel
theorem dX8_lay_88 : decode cX8_lay 88 = .ok (.iload_n 3, 1) := by decide +kernel
theorem dX8_lay_89 : decode cX8_lay 89 = .ok (.bipush 16, 2) := by decide +kernel
theorem dX8_lay_91 : decode cX8_lay 91 = .ok (.ishl, 1) := by decide +kernel
theorem dX8_lay_92 : decode cX8_lay 92 = .ok (.bipush 16, 2) := by decide +kernel
theorem dX8_lay_94 : decode cX8_lay 94 = .ok (.ishr, 1) := by decide +kernel
theorem dX8_lay_95 : decode cX8_lay 95 = .ok (.goto 4, 3) := by decide +kernel
theorem dX8_lay_98 : decode cX8_lay 98 = .ok (.iload_n 3, 1) := by decide +kernel
theorem dX8_lay_99 : decode cX8_lay 99 = .ok (.iastore, 1) := by decide +kernel
theorem dX8_lay_100 : decode cX8_lay 100 = .ok (.iconst 1, 1) := by decide +kernel
theorem dX8_lay_101 : decode cX8_lay 101 = .ok (.ireturn, 1) := by decide +kernel
set_option maxRecDepth 20000 in
theorem ggX8_read_X8_in : GoodIn wsX8_read wsX8_in := goodIn_r _ [11] (by decide +kernel) (by decide +kernel)
set_option maxRecDepth 20000 in
theorem gX8_read_X8_in : GoodIn wsX8_read (va_wsS RX8 53 yX8_in wsX8_in) := goodIn_app (goodIn_of _ (by decide +kernel)) ggX8_read_X8_in
set_option maxRecDepth 20000 in
theorem ggX8_read_X8_copies : GoodIn wsX8_read wsX8_copies := goodIn_r _ [15, 16, 23, 24, 25, 26, 27, 28, 29, 30, 31, 32, 33, 34, 35, 36, 37, 38, 39, 40, 41, 42, 43, 44, 45, 46, 47, 48, 49] (by decide +kernel) (by decide +kernel)
set_option maxRecDepth 20000 in
theorem gX8_read_X8_copies : GoodIn wsX8_read (wsV RX8 186 RX8 yX8_copies wsX8_copies) := goodIn_app (goodIn_of _ (by decide +kernel)) ggX8_read_X8_copies
set_option maxRecDepth 20000 in
theorem ggX8_read_X8_comes : GoodIn wsX8_read wsX8_comes := goodIn_r _ [20, 21, 22, 16, 8, 9, 10, 11, 23, 24, 25, 26, 27, 28, 29, 30, 31, 32, 33, 34, 35, 36, 37, 38, 39, 40, 41, 42, 43, 44, 45, 46, 47, 48, 49] (by decide +kernel) (by decide +kernel)
set_option maxRecDepth 20000 in
theorem gX8_read_X8_comes : GoodIn wsX8_read (wsV RX8 173 RX8 yX8_comes wsX8_comes) := goodIn_app (goodIn_of _ (by decide +kernel)) ggX8_read_X8_comes
theorem dX8_read_0 : decode cX8_read 0 = .ok (.iload_n 1, 1) := by decide +kernel
theorem dX8_read_1 : decode cX8_read 1 = .ok (.i2l, 1) := by decide +kernel
theorem dX8_read_2 : decode cX8_read 2 = .ok (.lconst 0, 1) := by decide +kernel
theorem dX8_read_3 : decode cX8_read 3 = .ok (.ldc2_w 159, 3) := by decide +kernel
theorem dX8_read_6 : decode cX8_read 6 = .ok (.invokestatic 53, 3) := by decide +kernel
theorem dX8_read_9 : decode cX8_read 9 = .ok (.ifCond .eq 28, 3) := by decide +kernel
theorem dX8_read_12 : decode cX8_read 12 = .ok (.iload_n 2, 1) := by decide +kernel
theorem dX8_read_13 : decode cX8_read 13 = .ok (.i2l, 1) := by decide +kernel
theorem dX8_read_14 : decode cX8_read 14 = .ok (.lconst 0, 1) := by decide +kernel
theorem dX8_read_15 : decode cX8_read 15 = .ok (.ldc2_w 157, 3) := by decide +kernel
theorem dX8_read_18 : decode cX8_read 18 = .ok (.invokestatic 53, 3) := by decide +kernel
theorem dX8_read_21 : decode cX8_read 21 = .ok (.ifCond .eq 16, 3) := by decide +kernel
theorem dX8_read_24 : decode cX8_read 24 = .ok (.iload 4, 2) := by decide +kernel
theorem dX8_read_26 : decode cX8_read 26 = .ok (.i2l, 1) := by decide +kernel
theorem dX8_read_27 : decode cX8_read 27 = .ok (.lconst 0, 1) := by decide +kernel
theorem dX8_read_28 : decode cX8_read 28 = .ok (.ldc2_w 228, 3) := by decide +kernel
theorem dX8_read_31 : decode cX8_read 31 = .ok (.invokestatic 53, 3) := by decide +kernel
theorem dX8_read_34 : decode cX8_read 34 = .ok (.ifCond .ne 5, 3) := by decide +kernel
theorem dX8_read_37 : decode cX8_read 37 = .ok (.iconst (-1), 1) := by decide +kernel
theorem dX8_read_38 : decode cX8_read 38 = .ok (.ireturn, 1) := by decide +kernel
theorem dX8_read_39 : decode cX8_read 39 = .ok (.aload_n 0, 1) := by decide +kernel
theorem dX8_read_40 : decode cX8_read 40 = .ok (.iconst 0, 1) := by decide +kernel
theorem dX8_read_41 : decode cX8_read 41 = .ok (.sipush 135, 3) := by decide +kernel
theorem dX8_read_44 : decode cX8_read 44 = .ok (.invokevirtual 186, 3) := by decide +kernel
theorem dX8_read_47 : decode cX8_read 47 = .ok (.iconst 0, 1) := by decide +kernel
theorem dX8_read_48 : decode cX8_read 48 = .ok (.istore 5, 2) := by decide +kernel
theorem dX8_read_50 : decode cX8_read 50 = .ok (.iconst 0, 1) := by decide +kernel
theorem dX8_read_51 : decode cX8_read 51 = .ok (.istore 6, 2) := by decide +kernel
theorem dX8_read_53 : decode cX8_read 53 = .ok (.iconst 0, 1) := by decide +kernel
theorem dX8_read_54 : decode cX8_read 54 = .ok (.istore 7, 2) := by decide +kernel
theorem dX8_read_56 : decode cX8_read 56 = .ok (.iload 7, 2) := by decide +kernel
theorem dX8_read_58 : decode cX8_read 58 = .ok (.iconst 3, 1) := by decide +kernel
theorem dX8_read_59 : decode cX8_read 59 = .ok (.iload 4, 2) := by decide +kernel
theorem dX8_read_61 : decode cX8_read 61 = .ok (.imul, 1) := by decide +kernel
theorem dX8_read_62 : decode cX8_read 62 = .ok (.if_icmp .ge 145, 3) := by decide +kernel
theorem dX8_read_65 : decode cX8_read 65 = .ok (.iload 5, 2) := by decide +kernel
theorem dX8_read_67 : decode cX8_read 67 = .ok (.ifCond .ne 140, 3) := by decide +kernel
theorem dX8_read_70 : decode cX8_read 70 = .ok (.aload_n 0, 1) := by decide +kernel
theorem dX8_read_71 : decode cX8_read 71 = .ok (.getfield 42, 3) := by decide +kernel
theorem dX8_read_74 : decode cX8_read 74 = .ok (.iload_n 1, 1) := by decide +kernel
theorem dX8_read_75 : decode cX8_read 75 = .ok (.iaload, 1) := by decide +kernel
theorem dX8_read_76 : decode cX8_read 76 = .ok (.bipush (-4), 2) := by decide +kernel
theorem dX8_read_78 : decode cX8_read 78 = .ok (.if_icmp .ne 7, 3) := by decide +kernel
theorem dX8_read_81 : decode cX8_read 81 = .ok (.iconst 1, 1) := by decide +kernel
theorem dX8_read_82 : decode cX8_read 82 = .ok (.goto 44, 3) := by decide +kernel
theorem dX8_read_85 : decode cX8_read 85 = .ok (.aload_n 0, 1) := by decide +kernel
theorem dX8_read_86 : decode cX8_read 86 = .ok (.getfield 42, 3) := by decide +kernel
theorem dX8_read_89 : decode cX8_read 89 = .ok (.iload_n 1, 1) := by decide +kernel
theorem dX8_read_90 : decode cX8_read 90 = .ok (.iaload, 1) := by decide +kernel
theorem dX8_read_91 : decode cX8_read 91 = .ok (.iload_n 2, 1) := by decide +kernel
theorem dX8_read_92 : decode cX8_read 92 = .ok (.if_icmp .eq 7, 3) := by decide +kernel
theorem dX8_read_95 : decode cX8_read 95 = .ok (.iconst 3, 1) := by decide +kernel
theorem dX8_read_96 : decode cX8_read 96 = .ok (.goto 30, 3) := by decide +kernel
theorem dX8_read_99 : decode cX8_read 99 = .ok (.iload_n 3, 1) := by decide +kernel
theorem dX8_read_100 : decode cX8_read 100 = .ok (.i2l, 1) := by decide +kernel
theorem dX8_read_101 : decode cX8_read 101 = .ok (.iload 7, 2) := by decide +kernel
theorem dX8_read_103 : decode cX8_read 103 = .ok (.i2l, 1) := by decide +kernel
theorem dX8_read_104 : decode cX8_read 104 = .ok (.ladd, 1) := by decide +kernel
theorem dX8_read_105 : decode cX8_read 105 = .ok (.lconst 0, 1) := by decide +kernel
theorem dX8_read_106 : decode cX8_read 106 = .ok (.aload_n 0, 1) := by decide +kernel
theorem dX8_read_107 : decode cX8_read 107 = .ok (.getfield 45, 3) := by decide +kernel
theorem dX8_read_110 : decode cX8_read 110 = .ok (.iload_n 1, 1) := by decide +kernel
theorem dX8_read_111 : decode cX8_read 111 = .ok (.iaload, 1) := by decide +kernel
theorem dX8_read_112 : decode cX8_read 112 = .ok (.iconst 1, 1) := by decide +kernel
theorem dX8_read_113 : decode cX8_read 113 = .ok (.isub, 1) := by decide +kernel
theorem dX8_read_114 : decode cX8_read 114 = .ok (.i2l, 1) := by decide +kernel
theorem dX8_read_115 : decode cX8_read 115 = .ok (.invokestatic 53, 3) := by decide +kernel
theorem dX8_read_118 : decode cX8_read 118 = .ok (.ifCond .ne 7, 3) := by decide +kernel
theorem dX8_read_121 : decode cX8_read 121 = .ok (.iconst 2, 1) := by decide +kernel
theorem dX8_read_122 : decode cX8_read 122 = .ok (.goto 4, 3) := by decide +kernel
theorem dX8_read_125 : decode cX8_read 125 = .ok (.iconst 0, 1) := by decide +kernel
theorem dX8_read_126 : decode cX8_read 126 = .ok (.istore 5, 2) := by decide +kernel
theorem dX8_read_128 : decode cX8_read 128 = .ok (.iload 5, 2) := by decide +kernel
theorem dX8_read_130 : decode cX8_read 130 = .ok (.ifCond .ne 71, 3) := by decide +kernel
theorem dX8_read_133 : decode cX8_read 133 = .ok (.iload 7, 2) := by decide +kernel
theorem dX8_read_135 : decode cX8_read 135 = .ok (.iconst 3, 1) := by decide +kernel
theorem dX8_read_136 : decode cX8_read 136 = .ok (.irem, 1) := by decide +kernel
theorem dX8_read_137 : decode cX8_read 137 = .ok (.iconst 2, 1) := by decide +kernel
theorem dX8_read_138 : decode cX8_read 138 = .ok (.if_icmp .ne 63, 3) := by decide +kernel
theorem dX8_read_141 : decode cX8_read 141 = .ok (.bipush 40, 2) := by decide +kernel
theorem dX8_read_143 : decode cX8_read 143 = .ok (.iload_n 1, 1) := by decide +kernel
theorem dX8_read_144 : decode cX8_read 144 = .ok (.imul, 1) := by decide +kernel
theorem dX8_read_145 : decode cX8_read 145 = .ok (.iload_n 3, 1) := by decide +kernel
theorem dX8_read_146 : decode cX8_read 146 = .ok (.iadd, 1) := by decide +kernel
theorem dX8_read_147 : decode cX8_read 147 = .ok (.iload 7, 2) := by decide +kernel
theorem dX8_read_149 : decode cX8_read 149 = .ok (.iadd, 1) := by decide +kernel
theorem dX8_read_150 : decode cX8_read 150 = .ok (.istore 8, 2) := by decide +kernel
theorem dX8_read_152 : decode cX8_read 152 = .ok (.aload_n 0, 1) := by decide +kernel
theorem dX8_read_153 : decode cX8_read 153 = .ok (.aload_n 0, 1) := by decide +kernel
theorem dX8_read_154 : decode cX8_read 154 = .ok (.getfield 48, 3) := by decide +kernel
theorem dX8_read_157 : decode cX8_read 157 = .ok (.iload 8, 2) := by decide +kernel
theorem dX8_read_159 : decode cX8_read 159 = .ok (.iconst 2, 1) := by decide +kernel
theorem dX8_read_160 : decode cX8_read 160 = .ok (.isub, 1) := by decide +kernel
theorem dX8_read_161 : decode cX8_read 161 = .ok (.iaload, 1) := by decide +kernel
theorem dX8_read_162 : decode cX8_read 162 = .ok (.aload_n 0, 1) := by decide +kernel
theorem dX8_read_163 : decode cX8_read 163 = .ok (.getfield 48, 3) := by decide +kernel
theorem dX8_read_166 : decode cX8_read 166 = .ok (.iload 8, 2) := by decide +kernel
theorem dX8_read_168 : decode cX8_read 168 = .ok (.iconst 1, 1) := by decide +kernel
theorem dX8_read_169 : decode cX8_read 169 = .ok (.isub, 1) := by decide +kernel
theorem dX8_read_170 : decode cX8_read 170 = .ok (.iaload, 1) := by decide +kernel
theorem dX8_read_171 : decode cX8_read 171 = .ok (.aload_n 0, 1) := by decide +kernel
theorem dX8_read_172 : decode cX8_read 172 = .ok (.getfield 48, 3) := by decide +kernel
theorem dX8_read_175 : decode cX8_read 175 = .ok (.iload 8, 2) := by decide +kernel
theorem dX8_read_177 : decode cX8_read 177 = .ok (.iaload, 1) := by decide +kernel
theorem dX8_read_178 : decode cX8_read 178 = .ok (.invokevirtual 173, 3) := by decide +kernel
theorem dX8_read_181 : decode cX8_read 181 = .ok (.ifCond .ge 17, 3) := by decide +kernel
theorem dX8_read_184 : decode cX8_read 184 = .ok (.aload_n 0, 1) := by decide +kernel
theorem dX8_read_185 : decode cX8_read 185 = .ok (.sipush 135, 3) := by decide +kernel
theorem dX8_read_188 : decode cX8_read 188 = .ok (.iconst 0, 1) := by decide +kernel
theorem dX8_read_189 : decode cX8_read 189 = .ok (.invokevirtual 186, 3) := by decide +kernel
theorem dX8_read_192 : decode cX8_read 192 = .ok (.bipush (-20), 2) := by decide +kernel
theorem dX8_read_194 : decode cX8_read 194 = .ok (.iload 6, 2) := by decide +kernel
theorem dX8_read_196 : decode cX8_read 196 = .ok (.isub, 1) := by decide +kernel
theorem dX8_read_197 : decode cX8_read 197 = .ok (.ireturn, 1) := by decide +kernel
theorem dX8_read_198 : decode cX8_read 198 = .ok (.iinc 6 1, 3) := by decide +kernel
theorem dX8_read_201 : decode cX8_read 201 = .ok (.iinc 7 1, 3) := by decide +kernel
theorem dX8_read_204 : decode cX8_read 204 = .ok (.goto (-148), 3) := by decide +kernel
theorem dX8_read_207 : decode cX8_read 207 = .ok (.aload_n 0, 1) := by decide +kernel
theorem dX8_read_208 : decode cX8_read 208 = .ok (.iload 5, 2) := by decide +kernel
theorem dX8_read_210 : decode cX8_read 210 = .ok (.putfield 230, 3) := by decide +kernel
theorem dX8_read_213 : decode cX8_read 213 = .ok (.iload 6, 2) := by decide +kernel
theorem dX8_read_215 : decode cX8_read 215 = .ok (.ireturn, 1) := by decide +kernel
theorem dX8_torn_0 : decode cX8_torn 0 = .ok (.aload_n 0, 1) := by decide +kernel
theorem dX8_torn_1 : decode cX8_torn 1 = .ok (.getfield 230, 3) := by decide +kernel
theorem dX8_torn_4 : decode cX8_torn 4 = .ok (.ireturn, 1) := by decide +kernel
theorem dX8_count_0 : decode cX8_count 0 = .ok (.iconst 0, 1) := by decide +kernel
theorem dX8_count_1 : decode cX8_count 1 = .ok (.istore_n 2, 1) := by decide +kernel
theorem dX8_count_2 : decode cX8_count 2 = .ok (.iconst 0, 1) := by decide +kernel
theorem dX8_count_3 : decode cX8_count 3 = .ok (.istore_n 3, 1) := by decide +kernel
theorem dX8_count_4 : decode cX8_count 4 = .ok (.iconst 0, 1) := by decide +kernel
theorem dX8_count_5 : decode cX8_count 5 = .ok (.istore 4, 2) := by decide +kernel
theorem dX8_count_7 : decode cX8_count 7 = .ok (.iload 4, 2) := by decide +kernel
theorem dX8_count_9 : decode cX8_count 9 = .ok (.aload_n 0, 1) := by decide +kernel
theorem dX8_count_10 : decode cX8_count 10 = .ok (.getfield 7, 3) := by decide +kernel
theorem dX8_count_13 : decode cX8_count 13 = .ok (.bipush 16, 2) := by decide +kernel
theorem dX8_count_15 : decode cX8_count 15 = .ok (.iaload, 1) := by decide +kernel
theorem dX8_count_16 : decode cX8_count 16 = .ok (.if_icmp .ge 21, 3) := by decide +kernel
theorem dX8_count_19 : decode cX8_count 19 = .ok (.iload_n 2, 1) := by decide +kernel
theorem dX8_count_20 : decode cX8_count 20 = .ok (.aload_n 0, 1) := by decide +kernel
theorem dX8_count_21 : decode cX8_count 21 = .ok (.getfield 7, 3) := by decide +kernel
theorem dX8_count_24 : decode cX8_count 24 = .ok (.iconst 4, 1) := by decide +kernel
theorem dX8_count_25 : decode cX8_count 25 = .ok (.iload 4, 2) := by decide +kernel
theorem dX8_count_27 : decode cX8_count 27 = .ok (.iadd, 1) := by decide +kernel
theorem dX8_count_28 : decode cX8_count 28 = .ok (.iaload, 1) := by decide +kernel
theorem dX8_count_29 : decode cX8_count 29 = .ok (.iadd, 1) := by decide +kernel
theorem dX8_count_30 : decode cX8_count 30 = .ok (.istore_n 2, 1) := by decide +kernel
theorem dX8_count_31 : decode cX8_count 31 = .ok (.iinc 4 1, 3) := by decide +kernel
theorem dX8_count_34 : decode cX8_count 34 = .ok (.goto (-27), 3) := by decide +kernel
theorem dX8_count_37 : decode cX8_count 37 = .ok (.iconst 0, 1) := by decide +kernel
theorem dX8_count_38 : decode cX8_count 38 = .ok (.istore 4, 2) := by decide +kernel
theorem dX8_count_40 : decode cX8_count 40 = .ok (.iload 4, 2) := by decide +kernel
theorem dX8_count_42 : decode cX8_count 42 = .ok (.aload_n 0, 1) := by decide +kernel
theorem dX8_count_43 : decode cX8_count 43 = .ok (.getfield 7, 3) := by decide +kernel
theorem dX8_count_46 : decode cX8_count 46 = .ok (.bipush 41, 2) := by decide +kernel
theorem dX8_count_48 : decode cX8_count 48 = .ok (.iaload, 1) := by decide +kernel
theorem dX8_count_49 : decode cX8_count 49 = .ok (.if_icmp .ge 22, 3) := by decide +kernel
theorem dX8_count_52 : decode cX8_count 52 = .ok (.iload_n 3, 1) := by decide +kernel
theorem dX8_count_53 : decode cX8_count 53 = .ok (.aload_n 0, 1) := by decide +kernel
theorem dX8_count_54 : decode cX8_count 54 = .ok (.getfield 7, 3) := by decide +kernel
theorem dX8_count_57 : decode cX8_count 57 = .ok (.bipush 25, 2) := by decide +kernel
theorem dX8_count_59 : decode cX8_count 59 = .ok (.iload 4, 2) := by decide +kernel
theorem dX8_count_61 : decode cX8_count 61 = .ok (.iadd, 1) := by decide +kernel
theorem dX8_count_62 : decode cX8_count 62 = .ok (.iaload, 1) := by decide +kernel
theorem dX8_count_63 : decode cX8_count 63 = .ok (.iadd, 1) := by decide +kernel
theorem dX8_count_64 : decode cX8_count 64 = .ok (.istore_n 3, 1) := by decide +kernel
theorem dX8_count_65 : decode cX8_count 65 = .ok (.iinc 4 1, 3) := by decide +kernel
theorem dX8_count_68 : decode cX8_count 68 = .ok (.goto (-28), 3) := by decide +kernel
theorem dX8_count_71 : decode cX8_count 71 = .ok (.iload_n 1, 1) := by decide +kernel
theorem dX8_count_72 : decode cX8_count 72 = .ok (.tableswitch 107 0 5 #[40, 45, 75, 80, 103, 105], 40) := by decide +kernel
