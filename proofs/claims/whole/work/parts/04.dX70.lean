set_option maxRecDepth 20000 in
theorem ggX7_init_X2_init : GoodIn wsX7_init wsX2_init := goodIn_r _ [34, 35, 2, 3, 36, 37, 38, 39, 40, 41, 42, 43, 44, 45, 46, 47, 48, 49, 50, 51, 75, 76, 77, 78, 79, 80, 81, 108, 109, 110, 111, 112, 113, 114, 115, 116] (by decide +kernel) (by decide +kernel)
set_option maxRecDepth 20000 in
theorem gX7_init_X2_init : GoodIn wsX7_init (wsX2_init) := ggX7_init_X2_init
set_option maxRecDepth 20000 in
theorem ggX7_init_X5_init : GoodIn wsX7_init wsX5_init := goodIn_r _ [54, 55, 2, 3, 56, 57, 93, 94, 95, 96, 97] (by decide +kernel) (by decide +kernel)
set_option maxRecDepth 20000 in
theorem gX7_init_X5_init : GoodIn wsX7_init (wsX5_init) := ggX7_init_X5_init
set_option maxRecDepth 20000 in
theorem ggX7_init_X6_init : GoodIn wsX7_init wsX6_init := goodIn_r _ [60, 61, 2, 3, 62, 63, 98, 99, 100] (by decide +kernel) (by decide +kernel)
set_option maxRecDepth 20000 in
theorem gX7_init_X6_init : GoodIn wsX7_init (wsX6_init) := ggX7_init_X6_init
set_option maxRecDepth 20000 in
theorem ggX7_init_X3_init : GoodIn wsX7_init wsX3_init := goodIn_r _ [66, 67, 2, 3, 27, 68, 69, 101, 102, 103] (by decide +kernel) (by decide +kernel)
set_option maxRecDepth 20000 in
theorem gX7_init_X3_init : GoodIn wsX7_init (wsX3_init) := ggX7_init_X3_init
set_option maxRecDepth 20000 in
theorem ggX7_init_X4_init : GoodIn wsX7_init wsX4_init := goodIn_r _ [72, 73, 2, 3, 27, 74, 104, 105, 106, 107] (by decide +kernel) (by decide +kernel)
set_option maxRecDepth 20000 in
theorem gX7_init_X4_init : GoodIn wsX7_init (wsX4_init) := ggX7_init_X4_init
theorem dX7_init_0 : decode cX7_init 0 = .ok (.aload_n 0, 1) := by decide +kernel
theorem dX7_init_1 : decode cX7_init 1 = .ok (.invokespecial 1, 3) := by decide +kernel
theorem dX7_init_4 : decode cX7_init 4 = .ok (.aload_n 0, 1) := by decide +kernel
theorem dX7_init_5 : decode cX7_init 5 = .ok (.new 7, 3) := by decide +kernel
theorem dX7_init_8 : decode cX7_init 8 = .ok (.dup, 1) := by decide +kernel
theorem dX7_init_9 : decode cX7_init 9 = .ok (.invokespecial 9, 3) := by decide +kernel
theorem dX7_init_12 : decode cX7_init 12 = .ok (.putfield 10, 3) := by decide +kernel
theorem dX7_init_15 : decode cX7_init 15 = .ok (.aload_n 0, 1) := by decide +kernel
theorem dX7_init_16 : decode cX7_init 16 = .ok (.new 7, 3) := by decide +kernel
theorem dX7_init_19 : decode cX7_init 19 = .ok (.dup, 1) := by decide +kernel
theorem dX7_init_20 : decode cX7_init 20 = .ok (.invokespecial 9, 3) := by decide +kernel
theorem dX7_init_23 : decode cX7_init 23 = .ok (.putfield 16, 3) := by decide +kernel
theorem dX7_init_26 : decode cX7_init 26 = .ok (.aload_n 0, 1) := by decide +kernel
theorem dX7_init_27 : decode cX7_init 27 = .ok (.iconst 2, 1) := by decide +kernel
theorem dX7_init_28 : decode cX7_init 28 = .ok (.anewarray 7, 3) := by decide +kernel
theorem dX7_init_31 : decode cX7_init 31 = .ok (.putfield 19, 3) := by decide +kernel
theorem dX7_init_34 : decode cX7_init 34 = .ok (.aload_n 0, 1) := by decide +kernel
theorem dX7_init_35 : decode cX7_init 35 = .ok (.iconst 2, 1) := by decide +kernel
theorem dX7_init_36 : decode cX7_init 36 = .ok (.newarray .boolean, 2) := by decide +kernel
theorem dX7_init_38 : decode cX7_init 38 = .ok (.putfield 23, 3) := by decide +kernel
theorem dX7_init_41 : decode cX7_init 41 = .ok (.aload_n 0, 1) := by decide +kernel
theorem dX7_init_42 : decode cX7_init 42 = .ok (.new 27, 3) := by decide +kernel
theorem dX7_init_45 : decode cX7_init 45 = .ok (.dup, 1) := by decide +kernel
theorem dX7_init_46 : decode cX7_init 46 = .ok (.invokespecial 29, 3) := by decide +kernel
theorem dX7_init_49 : decode cX7_init 49 = .ok (.putfield 30, 3) := by decide +kernel
theorem dX7_init_52 : decode cX7_init 52 = .ok (.aload_n 0, 1) := by decide +kernel
theorem dX7_init_53 : decode cX7_init 53 = .ok (.new 34, 3) := by decide +kernel
theorem dX7_init_56 : decode cX7_init 56 = .ok (.dup, 1) := by decide +kernel
theorem dX7_init_57 : decode cX7_init 57 = .ok (.aload_n 0, 1) := by decide +kernel
theorem dX7_init_58 : decode cX7_init 58 = .ok (.getfield 30, 3) := by decide +kernel
theorem dX7_init_61 : decode cX7_init 61 = .ok (.aload_n 0, 1) := by decide +kernel
theorem dX7_init_62 : decode cX7_init 62 = .ok (.getfield 16, 3) := by decide +kernel
theorem dX7_init_65 : decode cX7_init 65 = .ok (.invokespecial 36, 3) := by decide +kernel
theorem dX7_init_68 : decode cX7_init 68 = .ok (.putfield 39, 3) := by decide +kernel
theorem dX7_init_71 : decode cX7_init 71 = .ok (.aload_n 0, 1) := by decide +kernel
theorem dX7_init_72 : decode cX7_init 72 = .ok (.new 43, 3) := by decide +kernel
theorem dX7_init_75 : decode cX7_init 75 = .ok (.dup, 1) := by decide +kernel
theorem dX7_init_76 : decode cX7_init 76 = .ok (.invokespecial 45, 3) := by decide +kernel
theorem dX7_init_79 : decode cX7_init 79 = .ok (.putfield 46, 3) := by decide +kernel
theorem dX7_init_82 : decode cX7_init 82 = .ok (.aload_n 0, 1) := by decide +kernel
theorem dX7_init_83 : decode cX7_init 83 = .ok (.iconst 4, 1) := by decide +kernel
theorem dX7_init_84 : decode cX7_init 84 = .ok (.anewarray 50, 3) := by decide +kernel
theorem dX7_init_87 : decode cX7_init 87 = .ok (.putfield 52, 3) := by decide +kernel
theorem dX7_init_90 : decode cX7_init 90 = .ok (.aload_n 0, 1) := by decide +kernel
theorem dX7_init_91 : decode cX7_init 91 = .ok (.bipush 10, 2) := by decide +kernel
theorem dX7_init_93 : decode cX7_init 93 = .ok (.bipush 41, 2) := by decide +kernel
theorem dX7_init_95 : decode cX7_init 95 = .ok (.multianewarray 56 2, 4) := by decide +kernel
theorem dX7_init_99 : decode cX7_init 99 = .ok (.putfield 58, 3) := by decide +kernel
theorem dX7_init_102 : decode cX7_init 102 = .ok (.aload_n 0, 1) := by decide +kernel
theorem dX7_init_103 : decode cX7_init 103 = .ok (.bipush 41, 2) := by decide +kernel
theorem dX7_init_105 : decode cX7_init 105 = .ok (.newarray .int, 2) := by decide +kernel
theorem dX7_init_107 : decode cX7_init 107 = .ok (.putfield 61, 3) := by decide +kernel
theorem dX7_init_110 : decode cX7_init 110 = .ok (.iconst 0, 1) := by decide +kernel
theorem dX7_init_111 : decode cX7_init 111 = .ok (.istore_n 1, 1) := by decide +kernel
theorem dX7_init_112 : decode cX7_init 112 = .ok (.iload_n 1, 1) := by decide +kernel
theorem dX7_init_113 : decode cX7_init 113 = .ok (.iconst 2, 1) := by decide +kernel
theorem dX7_init_114 : decode cX7_init 114 = .ok (.if_icmp .ge 22, 3) := by decide +kernel
theorem dX7_init_117 : decode cX7_init 117 = .ok (.aload_n 0, 1) := by decide +kernel
theorem dX7_init_118 : decode cX7_init 118 = .ok (.getfield 19, 3) := by decide +kernel
theorem dX7_init_121 : decode cX7_init 121 = .ok (.iload_n 1, 1) := by decide +kernel
theorem dX7_init_122 : decode cX7_init 122 = .ok (.new 7, 3) := by decide +kernel
theorem dX7_init_125 : decode cX7_init 125 = .ok (.dup, 1) := by decide +kernel
theorem dX7_init_126 : decode cX7_init 126 = .ok (.invokespecial 9, 3) := by decide +kernel
theorem dX7_init_129 : decode cX7_init 129 = .ok (.aastore, 1) := by decide +kernel
theorem dX7_init_130 : decode cX7_init 130 = .ok (.iinc 1 1, 3) := by decide +kernel
theorem dX7_init_133 : decode cX7_init 133 = .ok (.goto (-21), 3) := by decide +kernel
theorem dX7_init_136 : decode cX7_init 136 = .ok (.iconst 0, 1) := by decide +kernel
theorem dX7_init_137 : decode cX7_init 137 = .ok (.istore_n 1, 1) := by decide +kernel
theorem dX7_init_138 : decode cX7_init 138 = .ok (.iload_n 1, 1) := by decide +kernel
theorem dX7_init_139 : decode cX7_init 139 = .ok (.iconst 4, 1) := by decide +kernel
theorem dX7_init_140 : decode cX7_init 140 = .ok (.if_icmp .ge 22, 3) := by decide +kernel
theorem dX7_init_143 : decode cX7_init 143 = .ok (.aload_n 0, 1) := by decide +kernel
theorem dX7_init_144 : decode cX7_init 144 = .ok (.getfield 52, 3) := by decide +kernel
theorem dX7_init_147 : decode cX7_init 147 = .ok (.iload_n 1, 1) := by decide +kernel
theorem dX7_init_148 : decode cX7_init 148 = .ok (.new 50, 3) := by decide +kernel
theorem dX7_init_151 : decode cX7_init 151 = .ok (.dup, 1) := by decide +kernel
theorem dX7_init_152 : decode cX7_init 152 = .ok (.invokespecial 65, 3) := by decide +kernel
theorem dX7_init_155 : decode cX7_init 155 = .ok (.aastore, 1) := by decide +kernel
theorem dX7_init_156 : decode cX7_init 156 = .ok (.iinc 1 1, 3) := by decide +kernel
theorem dX7_init_159 : decode cX7_init 159 = .ok (.goto (-21), 3) := by decide +kernel
theorem dX7_init_162 : decode cX7_init 162 = .ok (.return_, 1) := by decide +kernel
set_option maxRecDepth 20000 in
theorem ggX7_feed_X5_append : GoodIn wsX7_feed wsX5_append := goodIn_r _ [7, 8, 9, 21, 22, 23, 24, 25] (by decide +kernel) (by decide +kernel)
set_option maxRecDepth 20000 in
theorem gX7_feed_X5_append : GoodIn wsX7_feed (wsV RX7 66 RX5 yX5_append wsX5_append) := goodIn_app (goodIn_of _ (by decide +kernel)) ggX7_feed_X5_append
theorem dX7_feed_0 : decode cX7_feed 0 = .ok (.iload_n 1, 1) := by decide +kernel
theorem dX7_feed_1 : decode cX7_feed 1 = .ok (.ifCond .lt 9, 3) := by decide +kernel
theorem dX7_feed_4 : decode cX7_feed 4 = .ok (.iload_n 1, 1) := by decide +kernel
theorem dX7_feed_5 : decode cX7_feed 5 = .ok (.bipush 127, 2) := by decide +kernel
theorem dX7_feed_7 : decode cX7_feed 7 = .ok (.if_icmp .le 5, 3) := by decide +kernel
theorem dX7_feed_10 : decode cX7_feed 10 = .ok (.iconst (-1), 1) := by decide +kernel
theorem dX7_feed_11 : decode cX7_feed 11 = .ok (.ireturn, 1) := by decide +kernel
theorem dX7_feed_12 : decode cX7_feed 12 = .ok (.aload_n 0, 1) := by decide +kernel
theorem dX7_feed_13 : decode cX7_feed 13 = .ok (.getfield 30, 3) := by decide +kernel
theorem dX7_feed_16 : decode cX7_feed 16 = .ok (.iload_n 1, 1) := by decide +kernel
theorem dX7_feed_17 : decode cX7_feed 17 = .ok (.invokevirtual 66, 3) := by decide +kernel
theorem dX7_feed_20 : decode cX7_feed 20 = .ok (.ifCond .eq 13, 3) := by decide +kernel
theorem dX7_feed_23 : decode cX7_feed 23 = .ok (.aload_n 0, 1) := by decide +kernel
theorem dX7_feed_24 : decode cX7_feed 24 = .ok (.getfield 30, 3) := by decide +kernel
theorem dX7_feed_27 : decode cX7_feed 27 = .ok (.getfield 70, 3) := by decide +kernel
theorem dX7_feed_30 : decode cX7_feed 30 = .ok (.goto 5, 3) := by decide +kernel
theorem dX7_feed_33 : decode cX7_feed 33 = .ok (.bipush (-3), 2) := by decide +kernel
theorem dX7_feed_35 : decode cX7_feed 35 = .ok (.ireturn, 1) := by decide +kernel
theorem dX7_end_0 : decode cX7_end 0 = .ok (.iload_n 1, 1) := by decide +kernel
theorem dX7_end_1 : decode cX7_end 1 = .ok (.ifCond .lt 14, 3) := by decide +kernel
theorem dX7_end_4 : decode cX7_end 4 = .ok (.iload_n 1, 1) := by decide +kernel
theorem dX7_end_5 : decode cX7_end 5 = .ok (.aload_n 0, 1) := by decide +kernel
theorem dX7_end_6 : decode cX7_end 6 = .ok (.getfield 30, 3) := by decide +kernel
theorem dX7_end_9 : decode cX7_end 9 = .ok (.getfield 70, 3) := by decide +kernel
theorem dX7_end_12 : decode cX7_end 12 = .ok (.if_icmp .le 5, 3) := by decide +kernel
theorem dX7_end_15 : decode cX7_end 15 = .ok (.iconst (-1), 1) := by decide +kernel
theorem dX7_end_16 : decode cX7_end 16 = .ok (.ireturn, 1) := by decide +kernel
theorem dX7_end_17 : decode cX7_end 17 = .ok (.aload_n 0, 1) := by decide +kernel
theorem dX7_end_18 : decode cX7_end 18 = .ok (.getfield 30, 3) := by decide +kernel
theorem dX7_end_21 : decode cX7_end 21 = .ok (.getfield 70, 3) := by decide +kernel
theorem dX7_end_24 : decode cX7_end 24 = .ok (.istore_n 2, 1) := by decide +kernel
theorem dX7_end_25 : decode cX7_end 25 = .ok (.aload_n 0, 1) := by decide +kernel
theorem dX7_end_26 : decode cX7_end 26 = .ok (.getfield 30, 3) := by decide +kernel
theorem dX7_end_29 : decode cX7_end 29 = .ok (.iload_n 1, 1) := by decide +kernel
theorem dX7_end_30 : decode cX7_end 30 = .ok (.putfield 70, 3) := by decide +kernel
theorem dX7_end_33 : decode cX7_end 33 = .ok (.iload_n 2, 1) := by decide +kernel
theorem dX7_end_34 : decode cX7_end 34 = .ok (.ireturn, 1) := by decide +kernel
set_option maxRecDepth 20000 in
theorem ggX7_text_X6_tellAll : GoodIn wsX7_text wsX6_tellAll := goodIn_r _ [15, 16, 17, 18, 19, 20, 21, 22, 23, 24, 25, 26, 27, 28, 29, 30, 31, 32, 33, 34, 35, 36, 37, 38, 39, 40, 41, 42, 43, 44, 45, 46, 47, 48, 49, 50, 51, 52, 53, 54, 55, 56, 14, 57, 58, 59, 60, 61, 62, 63, 64, 65, 66, 67, 68, 69, 70, 71, 72, 73, 74, 75, 76, 77, 78, 79, 80, 81, 82, 83, 84, 85, 86, 87, 88, 89, 90, 91, 92, 93, 94, 95, 96, 97, 98, 99, 100, 101, 102, 103, 104, 105, 106, 107, 108, 109, 110, 111, 112, 113, 114, 115, 116, 117, 118, 119, 120, 121, 122, 123, 124, 125, 126, 127, 128, 129, 130, 131, 132, 133, 134, 135, 136, 137, 138, 139, 140, 141, 142, 143, 144, 145, 146, 147, 148, 149, 150, 151, 152, 153, 154, 155, 156, 157, 158, 159, 160, 161, 162, 163, 164, 165, 166, 167, 168, 196, 197, 198, 191, 192, 193, 194, 195, 202, 203, 204, 205, 206, 207, 208, 209, 210, 211, 212, 213, 214, 215, 216, 217] (by decide +kernel) (by decide +kernel)
set_option maxRecDepth 20000 in
theorem gX7_text_X6_tellAll : GoodIn wsX7_text (wsV RX7 74 RX6 yX6_tellAll wsX6_tellAll) := goodIn_app (goodIn_of _ (by decide +kernel)) ggX7_text_X6_tellAll
set_option maxRecDepth 20000 in
theorem ggX7_text_X2_become : GoodIn wsX7_text wsX2_become := goodIn_r _ [172, 25, 159, 26, 141, 173, 174, 175, 27, 28, 29, 176, 177, 178, 163, 179, 165, 166, 167, 168, 142, 143, 144, 145, 146, 147, 148, 149, 202, 203, 204, 205, 206, 207, 208, 209, 210, 211, 212, 213, 214, 215, 216, 217] (by decide +kernel) (by decide +kernel)
set_option maxRecDepth 20000 in
theorem gX7_text_X2_become : GoodIn wsX7_text (wsV RX7 84 RX2 yX2_become wsX2_become) := goodIn_app (goodIn_of _ (by decide +kernel)) ggX7_text_X2_become
theorem dX7_text_0 : decode cX7_text 0 = .ok (.aload_n 0, 1) := by decide +kernel
theorem dX7_text_1 : decode cX7_text 1 = .ok (.getfield 39, 3) := by decide +kernel
theorem dX7_text_4 : decode cX7_text 4 = .ok (.invokevirtual 74, 3) := by decide +kernel
theorem dX7_text_7 : decode cX7_text 7 = .ok (.istore_n 1, 1) := by decide +kernel
theorem dX7_text_8 : decode cX7_text 8 = .ok (.aload_n 0, 1) := by decide +kernel
theorem dX7_text_9 : decode cX7_text 9 = .ok (.getfield 30, 3) := by decide +kernel
theorem dX7_text_12 : decode cX7_text 12 = .ok (.iconst 0, 1) := by decide +kernel
theorem dX7_text_13 : decode cX7_text 13 = .ok (.putfield 70, 3) := by decide +kernel
theorem dX7_text_16 : decode cX7_text 16 = .ok (.aload_n 0, 1) := by decide +kernel
theorem dX7_text_17 : decode cX7_text 17 = .ok (.getfield 39, 3) := by decide +kernel
theorem dX7_text_20 : decode cX7_text 20 = .ok (.getfield 78, 3) := by decide +kernel
theorem dX7_text_23 : decode cX7_text 23 = .ok (.ifCond .eq 14, 3) := by decide +kernel
theorem dX7_text_26 : decode cX7_text 26 = .ok (.bipush (-10), 2) := by decide +kernel
theorem dX7_text_28 : decode cX7_text 28 = .ok (.aload_n 0, 1) := by decide +kernel
theorem dX7_text_29 : decode cX7_text 29 = .ok (.getfield 30, 3) := by decide +kernel
theorem dX7_text_32 : decode cX7_text 32 = .ok (.getfield 81, 3) := by decide +kernel
theorem dX7_text_35 : decode cX7_text 35 = .ok (.isub, 1) := by decide +kernel
theorem dX7_text_36 : decode cX7_text 36 = .ok (.ireturn, 1) := by decide +kernel
theorem dX7_text_37 : decode cX7_text 37 = .ok (.aload_n 0, 1) := by decide +kernel
theorem dX7_text_38 : decode cX7_text 38 = .ok (.getfield 10, 3) := by decide +kernel
theorem dX7_text_41 : decode cX7_text 41 = .ok (.aload_n 0, 1) := by decide +kernel
theorem dX7_text_42 : decode cX7_text 42 = .ok (.getfield 16, 3) := by decide +kernel
theorem dX7_text_45 : decode cX7_text 45 = .ok (.invokevirtual 84, 3) := by decide +kernel
theorem dX7_text_48 : decode cX7_text 48 = .ok (.aload_n 0, 1) := by decide +kernel
theorem dX7_text_49 : decode cX7_text 49 = .ok (.getfield 46, 3) := by decide +kernel
theorem dX7_text_52 : decode cX7_text 52 = .ok (.iconst 0, 1) := by decide +kernel
theorem dX7_text_53 : decode cX7_text 53 = .ok (.putfield 88, 3) := by decide +kernel
theorem dX7_text_56 : decode cX7_text 56 = .ok (.iconst 0, 1) := by decide +kernel
theorem dX7_text_57 : decode cX7_text 57 = .ok (.istore_n 2, 1) := by decide +kernel
theorem dX7_text_58 : decode cX7_text 58 = .ok (.iload_n 2, 1) := by decide +kernel
theorem dX7_text_59 : decode cX7_text 59 = .ok (.iconst 2, 1) := by decide +kernel
theorem dX7_text_60 : decode cX7_text 60 = .ok (.if_icmp .ge 16, 3) := by decide +kernel
theorem dX7_text_63 : decode cX7_text 63 = .ok (.aload_n 0, 1) := by decide +kernel
theorem dX7_text_64 : decode cX7_text 64 = .ok (.getfield 23, 3) := by decide +kernel
theorem dX7_text_67 : decode cX7_text 67 = .ok (.iload_n 2, 1) := by decide +kernel
theorem dX7_text_68 : decode cX7_text 68 = .ok (.iconst 0, 1) := by decide +kernel
theorem dX7_text_69 : decode cX7_text 69 = .ok (.bastore, 1) := by decide +kernel
theorem dX7_text_70 : decode cX7_text 70 = .ok (.iinc 2 1, 3) := by decide +kernel
theorem dX7_text_73 : decode cX7_text 73 = .ok (.goto (-15), 3) := by decide +kernel
theorem dX7_text_76 : decode cX7_text 76 = .ok (.iload_n 1, 1) := by decide +kernel
theorem dX7_text_77 : decode cX7_text 77 = .ok (.ireturn, 1) := by decide +kernel
theorem dX7_fault_0 : decode cX7_fault 0 = .ok (.aload_n 0, 1) := by decide +kernel
theorem dX7_fault_1 : decode cX7_fault 1 = .ok (.getfield 39, 3) := by decide +kernel
theorem dX7_fault_4 : decode cX7_fault 4 = .ok (.getfield 78, 3) := by decide +kernel
theorem dX7_fault_7 : decode cX7_fault 7 = .ok (.ireturn, 1) := by decide +kernel
set_option maxRecDepth 20000 in
theorem ggX7_rule_X2_comers : GoodIn wsX7_rule wsX2_comers := goodIn_r _ [11, 12, 13, 14, 15, 16, 17, 18, 19, 20, 21, 22, 48, 49, 50, 51, 52, 53, 54, 55, 56, 57] (by decide +kernel) (by decide +kernel)
set_option maxRecDepth 20000 in
theorem gX7_rule_X2_comers : GoodIn wsX7_rule (wsV RX7 106 RX2 yX2_comers wsX2_comers) := goodIn_app (goodIn_of _ (by decide +kernel)) ggX7_rule_X2_comers
set_option maxRecDepth 20000 in
theorem ggX7_rule_X2_letters : GoodIn wsX7_rule wsX2_letters := goodIn_r _ [26, 27, 28, 29, 30, 31, 32, 33, 34, 35, 36, 48, 49, 50, 51, 52, 53, 54, 58, 59, 60, 61, 62, 63] (by decide +kernel) (by decide +kernel)
set_option maxRecDepth 20000 in
theorem gX7_rule_X2_letters : GoodIn wsX7_rule (wsV RX7 109 RX2 yX2_letters wsX2_letters) := goodIn_app (goodIn_of _ (by decide +kernel)) ggX7_rule_X2_letters
theorem dX7_rule_0 : decode cX7_rule 0 = .ok (.iload_n 1, 1) := by decide +kernel
theorem dX7_rule_1 : decode cX7_rule 1 = .ok (.tableswitch 99 0 6 #[43, 51, 59, 67, 75, 83, 91], 43) := by decide +kernel
theorem dX7_rule_44 : decode cX7_rule 44 = .ok (.aload_n 0, 1) := by decide +kernel
theorem dX7_rule_45 : decode cX7_rule 45 = .ok (.getfield 10, 3) := by decide +kernel
theorem dX7_rule_48 : decode cX7_rule 48 = .ok (.getfield 91, 3) := by decide +kernel
theorem dX7_rule_51 : decode cX7_rule 51 = .ok (.ireturn, 1) := by decide +kernel
theorem dX7_rule_52 : decode cX7_rule 52 = .ok (.aload_n 0, 1) := by decide +kernel
theorem dX7_rule_53 : decode cX7_rule 53 = .ok (.getfield 10, 3) := by decide +kernel
theorem dX7_rule_56 : decode cX7_rule 56 = .ok (.getfield 94, 3) := by decide +kernel
theorem dX7_rule_59 : decode cX7_rule 59 = .ok (.ireturn, 1) := by decide +kernel
theorem dX7_rule_60 : decode cX7_rule 60 = .ok (.aload_n 0, 1) := by decide +kernel
theorem dX7_rule_61 : decode cX7_rule 61 = .ok (.getfield 10, 3) := by decide +kernel
theorem dX7_rule_64 : decode cX7_rule 64 = .ok (.getfield 97, 3) := by decide +kernel
theorem dX7_rule_67 : decode cX7_rule 67 = .ok (.ireturn, 1) := by decide +kernel
theorem dX7_rule_68 : decode cX7_rule 68 = .ok (.aload_n 0, 1) := by decide +kernel
theorem dX7_rule_69 : decode cX7_rule 69 = .ok (.getfield 10, 3) := by decide +kernel
theorem dX7_rule_72 : decode cX7_rule 72 = .ok (.getfield 100, 3) := by decide +kernel
theorem dX7_rule_75 : decode cX7_rule 75 = .ok (.ireturn, 1) := by decide +kernel
theorem dX7_rule_76 : decode cX7_rule 76 = .ok (.aload_n 0, 1) := by decide +kernel
theorem dX7_rule_77 : decode cX7_rule 77 = .ok (.getfield 10, 3) := by decide +kernel
theorem dX7_rule_80 : decode cX7_rule 80 = .ok (.getfield 103, 3) := by decide +kernel
theorem dX7_rule_83 : decode cX7_rule 83 = .ok (.ireturn, 1) := by decide +kernel
theorem dX7_rule_84 : decode cX7_rule 84 = .ok (.aload_n 0, 1) := by decide +kernel
theorem dX7_rule_85 : decode cX7_rule 85 = .ok (.getfield 10, 3) := by decide +kernel
theorem dX7_rule_88 : decode cX7_rule 88 = .ok (.invokevirtual 106, 3) := by decide +kernel
theorem dX7_rule_91 : decode cX7_rule 91 = .ok (.ireturn, 1) := by decide +kernel
theorem dX7_rule_92 : decode cX7_rule 92 = .ok (.aload_n 0, 1) := by decide +kernel
theorem dX7_rule_93 : decode cX7_rule 93 = .ok (.getfield 10, 3) := by decide +kernel
theorem dX7_rule_96 : decode cX7_rule 96 = .ok (.invokevirtual 109, 3) := by decide +kernel
theorem dX7_rule_99 : decode cX7_rule 99 = .ok (.ireturn, 1) := by decide +kernel
theorem dX7_rule_100 : decode cX7_rule 100 = .ok (.iconst (-1), 1) := by decide +kernel
theorem dX7_rule_101 : decode cX7_rule 101 = .ok (.ireturn, 1) := by decide +kernel
set_option maxRecDepth 20000 in
theorem ggX7_door_X7_isDoor : GoodIn wsX7_door wsX7_isDoor := goodIn_r _ [7, 1, 8, 22, 23, 24, 25, 26, 27, 28, 29, 30, 31, 32, 33, 34, 35, 36, 37, 38, 39] (by decide +kernel) (by decide +kernel)
set_option maxRecDepth 20000 in
theorem gX7_door_X7_isDoor : GoodIn wsX7_door (wsV RX7 112 RX7 yX7_isDoor wsX7_isDoor) := goodIn_app (goodIn_of _ (by decide +kernel)) ggX7_door_X7_isDoor
set_option maxRecDepth 20000 in
theorem ggX7_door_X1_room : GoodIn wsX7_door wsX1_room := goodIn_r _ [13, 14, 15, 16, 40, 41, 42, 43, 44, 45] (by decide +kernel) (by decide +kernel)
set_option maxRecDepth 20000 in
theorem gX7_door_X1_room : GoodIn wsX7_door (wsV RX7 119 RX1 yX1_room wsX1_room) := goodIn_app (goodIn_of _ (by decide +kernel)) ggX7_door_X1_room
set_option maxRecDepth 20000 in
theorem ggX7_door_X1_told : GoodIn wsX7_door wsX1_told := goodIn_r _ [20, 14, 16, 21, 15, 40, 41, 42, 43, 44, 45] (by decide +kernel) (by decide +kernel)
set_option maxRecDepth 20000 in
theorem gX7_door_X1_told : GoodIn wsX7_door (wsV RX7 124 RX1 yX1_told wsX1_told) := goodIn_app (goodIn_of _ (by decide +kernel)) ggX7_door_X1_told
theorem dX7_door_0 : decode cX7_door 0 = .ok (.aload_n 0, 1) := by decide +kernel
theorem dX7_door_1 : decode cX7_door 1 = .ok (.iload_n 1, 1) := by decide +kernel
theorem dX7_door_2 : decode cX7_door 2 = .ok (.invokevirtual 112, 3) := by decide +kernel
theorem dX7_door_5 : decode cX7_door 5 = .ok (.ifCond .eq 12, 3) := by decide +kernel
theorem dX7_door_8 : decode cX7_door 8 = .ok (.iload_n 2, 1) := by decide +kernel
theorem dX7_door_9 : decode cX7_door 9 = .ok (.ifCond .lt 8, 3) := by decide +kernel
theorem dX7_door_12 : decode cX7_door 12 = .ok (.iload_n 2, 1) := by decide +kernel
theorem dX7_door_13 : decode cX7_door 13 = .ok (.iconst 4, 1) := by decide +kernel
theorem dX7_door_14 : decode cX7_door 14 = .ok (.if_icmp .le 5, 3) := by decide +kernel
theorem dX7_door_17 : decode cX7_door 17 = .ok (.iconst (-1), 1) := by decide +kernel
theorem dX7_door_18 : decode cX7_door 18 = .ok (.ireturn, 1) := by decide +kernel
theorem dX7_door_19 : decode cX7_door 19 = .ok (.iload_n 2, 1) := by decide +kernel
theorem dX7_door_20 : decode cX7_door 20 = .ok (.iconst 4, 1) := by decide +kernel
theorem dX7_door_21 : decode cX7_door 21 = .ok (.if_icmp .ne 18, 3) := by decide +kernel
theorem dX7_door_24 : decode cX7_door 24 = .ok (.aload_n 0, 1) := by decide +kernel
theorem dX7_door_25 : decode cX7_door 25 = .ok (.getfield 10, 3) := by decide +kernel
theorem dX7_door_28 : decode cX7_door 28 = .ok (.getfield 115, 3) := by decide +kernel
theorem dX7_door_31 : decode cX7_door 31 = .ok (.iload_n 1, 1) := by decide +kernel
theorem dX7_door_32 : decode cX7_door 32 = .ok (.aaload, 1) := by decide +kernel
theorem dX7_door_33 : decode cX7_door 33 = .ok (.invokevirtual 119, 3) := by decide +kernel
theorem dX7_door_36 : decode cX7_door 36 = .ok (.goto 16, 3) := by decide +kernel
theorem dX7_door_39 : decode cX7_door 39 = .ok (.aload_n 0, 1) := by decide +kernel
theorem dX7_door_40 : decode cX7_door 40 = .ok (.getfield 10, 3) := by decide +kernel
theorem dX7_door_43 : decode cX7_door 43 = .ok (.getfield 115, 3) := by decide +kernel
theorem dX7_door_46 : decode cX7_door 46 = .ok (.iload_n 1, 1) := by decide +kernel
theorem dX7_door_47 : decode cX7_door 47 = .ok (.aaload, 1) := by decide +kernel
theorem dX7_door_48 : decode cX7_door 48 = .ok (.iload_n 2, 1) := by decide +kernel
theorem dX7_door_49 : decode cX7_door 49 = .ok (.invokevirtual 124, 3) := by decide +kernel
theorem dX7_door_52 : decode cX7_door 52 = .ok (.ireturn, 1) := by decide +kernel
theorem dX7_crowd_0 : decode cX7_crowd 0 = .ok (.iload_n 1, 1) := by decide +kernel
theorem dX7_crowd_1 : decode cX7_crowd 1 = .ok (.ifCond .lt 14, 3) := by decide +kernel
theorem dX7_crowd_4 : decode cX7_crowd 4 = .ok (.iload_n 1, 1) := by decide +kernel
theorem dX7_crowd_5 : decode cX7_crowd 5 = .ok (.aload_n 0, 1) := by decide +kernel
theorem dX7_crowd_6 : decode cX7_crowd 6 = .ok (.getfield 10, 3) := by decide +kernel
theorem dX7_crowd_9 : decode cX7_crowd 9 = .ok (.getfield 94, 3) := by decide +kernel
theorem dX7_crowd_12 : decode cX7_crowd 12 = .ok (.if_icmp .lt 5, 3) := by decide +kernel
theorem dX7_crowd_15 : decode cX7_crowd 15 = .ok (.iconst (-1), 1) := by decide +kernel
theorem dX7_crowd_16 : decode cX7_crowd 16 = .ok (.ireturn, 1) := by decide +kernel
theorem dX7_crowd_17 : decode cX7_crowd 17 = .ok (.iload_n 2, 1) := by decide +kernel
theorem dX7_crowd_18 : decode cX7_crowd 18 = .ok (.tableswitch 65 0 2 #[26, 39, 52], 26) := by decide +kernel
theorem dX7_crowd_44 : decode cX7_crowd 44 = .ok (.aload_n 0, 1) := by decide +kernel
theorem dX7_crowd_45 : decode cX7_crowd 45 = .ok (.getfield 10, 3) := by decide +kernel
theorem dX7_crowd_48 : decode cX7_crowd 48 = .ok (.getfield 128, 3) := by decide +kernel
theorem dX7_crowd_51 : decode cX7_crowd 51 = .ok (.iload_n 1, 1) := by decide +kernel
theorem dX7_crowd_52 : decode cX7_crowd 52 = .ok (.aaload, 1) := by decide +kernel
theorem dX7_crowd_53 : decode cX7_crowd 53 = .ok (.getfield 132, 3) := by decide +kernel
theorem dX7_crowd_56 : decode cX7_crowd 56 = .ok (.ireturn, 1) := by decide +kernel
theorem dX7_crowd_57 : decode cX7_crowd 57 = .ok (.aload_n 0, 1) := by decide +kernel
theorem dX7_crowd_58 : decode cX7_crowd 58 = .ok (.getfield 10, 3) := by decide +kernel
theorem dX7_crowd_61 : decode cX7_crowd 61 = .ok (.getfield 128, 3) := by decide +kernel
theorem dX7_crowd_64 : decode cX7_crowd 64 = .ok (.iload_n 1, 1) := by decide +kernel
theorem dX7_crowd_65 : decode cX7_crowd 65 = .ok (.aaload, 1) := by decide +kernel
theorem dX7_crowd_66 : decode cX7_crowd 66 = .ok (.getfield 135, 3) := by decide +kernel
theorem dX7_crowd_69 : decode cX7_crowd 69 = .ok (.ireturn, 1) := by decide +kernel
theorem dX7_crowd_70 : decode cX7_crowd 70 = .ok (.aload_n 0, 1) := by decide +kernel
theorem dX7_crowd_71 : decode cX7_crowd 71 = .ok (.getfield 10, 3) := by decide +kernel
theorem dX7_crowd_74 : decode cX7_crowd 74 = .ok (.getfield 128, 3) := by decide +kernel
theorem dX7_crowd_77 : decode cX7_crowd 77 = .ok (.iload_n 1, 1) := by decide +kernel
theorem dX7_crowd_78 : decode cX7_crowd 78 = .ok (.aaload, 1) := by decide +kernel
theorem dX7_crowd_79 : decode cX7_crowd 79 = .ok (.getfield 138, 3) := by decide +kernel
theorem dX7_crowd_82 : decode cX7_crowd 82 = .ok (.ireturn, 1) := by decide +kernel
theorem dX7_crowd_83 : decode cX7_crowd 83 = .ok (.iconst (-1), 1) := by decide +kernel
theorem dX7_crowd_84 : decode cX7_crowd 84 = .ok (.ireturn, 1) := by decide +kernel
set_option maxRecDepth 20000 in
theorem ggX7_alter_X7_isDoor : GoodIn wsX7_alter wsX7_isDoor := goodIn_r _ [8, 1, 9, 36, 37, 38, 39, 40, 41, 42, 43, 44, 45, 46, 47, 48, 49, 50, 51, 52, 53] (by decide +kernel) (by decide +kernel)
set_option maxRecDepth 20000 in
theorem gX7_alter_X7_isDoor : GoodIn wsX7_alter (wsV RX7 112 RX7 yX7_isDoor wsX7_isDoor) := goodIn_app (goodIn_of _ (by decide +kernel)) ggX7_alter_X7_isDoor
set_option maxRecDepth 20000 in
theorem ggX7_alter_X7_mayBecome : GoodIn wsX7_alter wsX7_mayBecome := goodIn_r _ [12, 13, 14, 7, 15, 16, 17, 18] (by decide +kernel) (by decide +kernel)
set_option maxRecDepth 20000 in
theorem gX7_alter_X7_mayBecome : GoodIn wsX7_alter (va_wsS RX7 141 yX7_mayBecome wsX7_mayBecome) := goodIn_app (goodIn_of _ (by decide +kernel)) ggX7_alter_X7_mayBecome
set_option maxRecDepth 20000 in
theorem ggX7_alter_X1_told : GoodIn wsX7_alter wsX1_told := goodIn_r _ [23, 24, 25, 26, 27, 54, 55, 56, 57, 58, 59] (by decide +kernel) (by decide +kernel)
set_option maxRecDepth 20000 in
theorem gX7_alter_X1_told : GoodIn wsX7_alter (wsV RX7 124 RX1 yX1_told wsX1_told) := goodIn_app (goodIn_of _ (by decide +kernel)) ggX7_alter_X1_told
set_option maxRecDepth 20000 in
theorem ggX7_alter_X1_change : GoodIn wsX7_alter wsX1_change := goodIn_r _ [31, 24, 25, 26, 27, 32, 33, 34, 35, 54, 55, 56, 57, 58, 59] (by decide +kernel) (by decide +kernel)
set_option maxRecDepth 20000 in
theorem gX7_alter_X1_change : GoodIn wsX7_alter (wsV RX7 148 RX1 yX1_change wsX1_change) := goodIn_app (goodIn_of _ (by decide +kernel)) ggX7_alter_X1_change
theorem dX7_alter_0 : decode cX7_alter 0 = .ok (.aload_n 0, 1) := by decide +kernel
theorem dX7_alter_1 : decode cX7_alter 1 = .ok (.iload_n 1, 1) := by decide +kernel
theorem dX7_alter_2 : decode cX7_alter 2 = .ok (.invokevirtual 112, 3) := by decide +kernel
theorem dX7_alter_5 : decode cX7_alter 5 = .ok (.ifCond .eq 11, 3) := by decide +kernel
theorem dX7_alter_8 : decode cX7_alter 8 = .ok (.iload_n 2, 1) := by decide +kernel
theorem dX7_alter_9 : decode cX7_alter 9 = .ok (.iload_n 3, 1) := by decide +kernel
theorem dX7_alter_10 : decode cX7_alter 10 = .ok (.invokestatic 141, 3) := by decide +kernel
theorem dX7_alter_13 : decode cX7_alter 13 = .ok (.ifCond .ne 5, 3) := by decide +kernel
theorem dX7_alter_16 : decode cX7_alter 16 = .ok (.iconst (-1), 1) := by decide +kernel
theorem dX7_alter_17 : decode cX7_alter 17 = .ok (.ireturn, 1) := by decide +kernel
theorem dX7_alter_18 : decode cX7_alter 18 = .ok (.aload_n 0, 1) := by decide +kernel
theorem dX7_alter_19 : decode cX7_alter 19 = .ok (.getfield 10, 3) := by decide +kernel
theorem dX7_alter_22 : decode cX7_alter 22 = .ok (.getfield 115, 3) := by decide +kernel
theorem dX7_alter_25 : decode cX7_alter 25 = .ok (.iload_n 1, 1) := by decide +kernel
theorem dX7_alter_26 : decode cX7_alter 26 = .ok (.aaload, 1) := by decide +kernel
theorem dX7_alter_27 : decode cX7_alter 27 = .ok (.astore 4, 2) := by decide +kernel
theorem dX7_alter_29 : decode cX7_alter 29 = .ok (.iload_n 2, 1) := by decide +kernel
theorem dX7_alter_30 : decode cX7_alter 30 = .ok (.iconst 3, 1) := by decide +kernel
theorem dX7_alter_31 : decode cX7_alter 31 = .ok (.if_icmp .ne 15, 3) := by decide +kernel
theorem dX7_alter_34 : decode cX7_alter 34 = .ok (.iload_n 3, 1) := by decide +kernel
theorem dX7_alter_35 : decode cX7_alter 35 = .ok (.aload 4, 2) := by decide +kernel
theorem dX7_alter_37 : decode cX7_alter 37 = .ok (.getfield 145, 3) := by decide +kernel
theorem dX7_alter_40 : decode cX7_alter 40 = .ok (.if_icmp .le 6, 3) := by decide +kernel
theorem dX7_alter_43 : decode cX7_alter 43 = .ok (.bipush (-2), 2) := by decide +kernel
theorem dX7_alter_45 : decode cX7_alter 45 = .ok (.ireturn, 1) := by decide +kernel
theorem dX7_alter_46 : decode cX7_alter 46 = .ok (.aload 4, 2) := by decide +kernel
theorem dX7_alter_48 : decode cX7_alter 48 = .ok (.iload_n 2, 1) := by decide +kernel
theorem dX7_alter_49 : decode cX7_alter 49 = .ok (.invokevirtual 124, 3) := by decide +kernel
theorem dX7_alter_52 : decode cX7_alter 52 = .ok (.istore 5, 2) := by decide +kernel
theorem dX7_alter_54 : decode cX7_alter 54 = .ok (.aload 4, 2) := by decide +kernel
theorem dX7_alter_56 : decode cX7_alter 56 = .ok (.iload_n 2, 1) := by decide +kernel
theorem dX7_alter_57 : decode cX7_alter 57 = .ok (.iload_n 3, 1) := by decide +kernel
theorem dX7_alter_58 : decode cX7_alter 58 = .ok (.invokevirtual 148, 3) := by decide +kernel
theorem dX7_alter_61 : decode cX7_alter 61 = .ok (.iload 5, 2) := by decide +kernel
theorem dX7_alter_63 : decode cX7_alter 63 = .ok (.ireturn, 1) := by decide +kernel
set_option maxRecDepth 20000 in
theorem ggX7_hang_X7_mayBecome : GoodIn wsX7_hang wsX7_mayBecome := goodIn_r _ [6, 7, 8, 5, 9, 10, 11, 12] (by decide +kernel) (by decide +kernel)
set_option maxRecDepth 20000 in
theorem gX7_hang_X7_mayBecome : GoodIn wsX7_hang (va_wsS RX7 141 yX7_mayBecome wsX7_mayBecome) := goodIn_app (goodIn_of _ (by decide +kernel)) ggX7_hang_X7_mayBecome
set_option maxRecDepth 20000 in
theorem ggX7_hang_X2_addDoor : GoodIn wsX7_hang wsX2_addDoor := goodIn_r _ [17, 18, 19, 20, 21, 22, 23, 24, 25, 26, 27, 28, 40, 41, 42, 43, 44, 45, 46, 47, 48, 49, 50, 51, 52] (by decide +kernel) (by decide +kernel)
set_option maxRecDepth 20000 in
theorem gX7_hang_X2_addDoor : GoodIn wsX7_hang (wsV RX7 152 RX2 yX2_addDoor wsX2_addDoor) := goodIn_app (goodIn_of _ (by decide +kernel)) ggX7_hang_X2_addDoor
theorem dX7_hang_0 : decode cX7_hang 0 = .ok (.iconst 0, 1) := by decide +kernel
theorem dX7_hang_1 : decode cX7_hang 1 = .ok (.iload_n 1, 1) := by decide +kernel
theorem dX7_hang_2 : decode cX7_hang 2 = .ok (.invokestatic 141, 3) := by decide +kernel
theorem dX7_hang_5 : decode cX7_hang 5 = .ok (.ifCond .eq 19, 3) := by decide +kernel
theorem dX7_hang_8 : decode cX7_hang 8 = .ok (.iconst 1, 1) := by decide +kernel
theorem dX7_hang_9 : decode cX7_hang 9 = .ok (.iload_n 2, 1) := by decide +kernel
theorem dX7_hang_10 : decode cX7_hang 10 = .ok (.invokestatic 141, 3) := by decide +kernel
theorem dX7_hang_13 : decode cX7_hang 13 = .ok (.ifCond .eq 11, 3) := by decide +kernel
theorem dX7_hang_16 : decode cX7_hang 16 = .ok (.iconst 2, 1) := by decide +kernel
theorem dX7_hang_17 : decode cX7_hang 17 = .ok (.iload_n 3, 1) := by decide +kernel
theorem dX7_hang_18 : decode cX7_hang 18 = .ok (.invokestatic 141, 3) := by decide +kernel
theorem dX7_hang_21 : decode cX7_hang 21 = .ok (.ifCond .ne 5, 3) := by decide +kernel
theorem dX7_hang_24 : decode cX7_hang 24 = .ok (.iconst (-1), 1) := by decide +kernel
theorem dX7_hang_25 : decode cX7_hang 25 = .ok (.ireturn, 1) := by decide +kernel
theorem dX7_hang_26 : decode cX7_hang 26 = .ok (.aload_n 0, 1) := by decide +kernel
theorem dX7_hang_27 : decode cX7_hang 27 = .ok (.getfield 10, 3) := by decide +kernel
theorem dX7_hang_30 : decode cX7_hang 30 = .ok (.iload_n 1, 1) := by decide +kernel
theorem dX7_hang_31 : decode cX7_hang 31 = .ok (.iload_n 2, 1) := by decide +kernel
theorem dX7_hang_32 : decode cX7_hang 32 = .ok (.iload_n 3, 1) := by decide +kernel
theorem dX7_hang_33 : decode cX7_hang 33 = .ok (.invokevirtual 152, 3) := by decide +kernel
theorem dX7_hang_36 : decode cX7_hang 36 = .ok (.ifCond .eq 13, 3) := by decide +kernel
theorem dX7_hang_39 : decode cX7_hang 39 = .ok (.aload_n 0, 1) := by decide +kernel
theorem dX7_hang_40 : decode cX7_hang 40 = .ok (.getfield 10, 3) := by decide +kernel
theorem dX7_hang_43 : decode cX7_hang 43 = .ok (.getfield 91, 3) := by decide +kernel
theorem dX7_hang_46 : decode cX7_hang 46 = .ok (.goto 5, 3) := by decide +kernel
theorem dX7_hang_49 : decode cX7_hang 49 = .ok (.bipush (-3), 2) := by decide +kernel
theorem dX7_hang_51 : decode cX7_hang 51 = .ok (.ireturn, 1) := by decide +kernel
theorem dX7_cut_0 : decode cX7_cut 0 = .ok (.iload_n 1, 1) := by decide +kernel
theorem dX7_cut_1 : decode cX7_cut 1 = .ok (.ifCond .lt 14, 3) := by decide +kernel
theorem dX7_cut_4 : decode cX7_cut 4 = .ok (.iload_n 1, 1) := by decide +kernel
theorem dX7_cut_5 : decode cX7_cut 5 = .ok (.aload_n 0, 1) := by decide +kernel
theorem dX7_cut_6 : decode cX7_cut 6 = .ok (.getfield 10, 3) := by decide +kernel
theorem dX7_cut_9 : decode cX7_cut 9 = .ok (.getfield 91, 3) := by decide +kernel
theorem dX7_cut_12 : decode cX7_cut 12 = .ok (.if_icmp .le 5, 3) := by decide +kernel
theorem dX7_cut_15 : decode cX7_cut 15 = .ok (.iconst (-1), 1) := by decide +kernel
theorem dX7_cut_16 : decode cX7_cut 16 = .ok (.ireturn, 1) := by decide +kernel
theorem dX7_cut_17 : decode cX7_cut 17 = .ok (.aload_n 0, 1) := by decide +kernel
theorem dX7_cut_18 : decode cX7_cut 18 = .ok (.getfield 10, 3) := by decide +kernel
theorem dX7_cut_21 : decode cX7_cut 21 = .ok (.getfield 91, 3) := by decide +kernel
theorem dX7_cut_24 : decode cX7_cut 24 = .ok (.istore_n 2, 1) := by decide +kernel
theorem dX7_cut_25 : decode cX7_cut 25 = .ok (.aload_n 0, 1) := by decide +kernel
theorem dX7_cut_26 : decode cX7_cut 26 = .ok (.getfield 10, 3) := by decide +kernel
theorem dX7_cut_29 : decode cX7_cut 29 = .ok (.iload_n 1, 1) := by decide +kernel
theorem dX7_cut_30 : decode cX7_cut 30 = .ok (.putfield 91, 3) := by decide +kernel
theorem dX7_cut_33 : decode cX7_cut 33 = .ok (.iload_n 2, 1) := by decide +kernel
theorem dX7_cut_34 : decode cX7_cut 34 = .ok (.ireturn, 1) := by decide +kernel
set_option maxRecDepth 20000 in
theorem ggX7_come_X7_isCrowd : GoodIn wsX7_come wsX7_isCrowd := goodIn_r _ [6] (by decide +kernel) (by decide +kernel)
set_option maxRecDepth 20000 in
theorem gX7_come_X7_isCrowd : GoodIn wsX7_come (va_wsS RX7 156 yX7_isCrowd wsX7_isCrowd) := goodIn_app (goodIn_of _ (by decide +kernel)) ggX7_come_X7_isCrowd
set_option maxRecDepth 20000 in
theorem ggX7_come_X2_addCrowd : GoodIn wsX7_come wsX2_addCrowd := goodIn_r _ [11, 12, 13, 14, 15, 16, 17, 18, 19, 20, 21, 33, 34, 35, 36, 37, 38, 39, 40, 41, 42] (by decide +kernel) (by decide +kernel)
set_option maxRecDepth 20000 in
theorem gX7_come_X2_addCrowd : GoodIn wsX7_come (wsV RX7 159 RX2 yX2_addCrowd wsX2_addCrowd) := goodIn_app (goodIn_of _ (by decide +kernel)) ggX7_come_X2_addCrowd
theorem dX7_come_0 : decode cX7_come 0 = .ok (.iload_n 1, 1) := by decide +kernel
theorem dX7_come_1 : decode cX7_come 1 = .ok (.iload_n 2, 1) := by decide +kernel
theorem dX7_come_2 : decode cX7_come 2 = .ok (.iload_n 3, 1) := by decide +kernel
theorem dX7_come_3 : decode cX7_come 3 = .ok (.invokestatic 156, 3) := by decide +kernel
theorem dX7_come_6 : decode cX7_come 6 = .ok (.ifCond .ne 5, 3) := by decide +kernel
theorem dX7_come_9 : decode cX7_come 9 = .ok (.iconst (-1), 1) := by decide +kernel
theorem dX7_come_10 : decode cX7_come 10 = .ok (.ireturn, 1) := by decide +kernel
theorem dX7_come_11 : decode cX7_come 11 = .ok (.aload_n 0, 1) := by decide +kernel
theorem dX7_come_12 : decode cX7_come 12 = .ok (.getfield 10, 3) := by decide +kernel
theorem dX7_come_15 : decode cX7_come 15 = .ok (.iload_n 1, 1) := by decide +kernel
theorem dX7_come_16 : decode cX7_come 16 = .ok (.iload_n 2, 1) := by decide +kernel
theorem dX7_come_17 : decode cX7_come 17 = .ok (.iload_n 3, 1) := by decide +kernel
theorem dX7_come_18 : decode cX7_come 18 = .ok (.invokevirtual 159, 3) := by decide +kernel
theorem dX7_come_21 : decode cX7_come 21 = .ok (.ifCond .eq 13, 3) := by decide +kernel
theorem dX7_come_24 : decode cX7_come 24 = .ok (.aload_n 0, 1) := by decide +kernel
theorem dX7_come_25 : decode cX7_come 25 = .ok (.getfield 10, 3) := by decide +kernel
theorem dX7_come_28 : decode cX7_come 28 = .ok (.getfield 94, 3) := by decide +kernel
theorem dX7_come_31 : decode cX7_come 31 = .ok (.goto 5, 3) := by decide +kernel
theorem dX7_come_34 : decode cX7_come 34 = .ok (.bipush (-3), 2) := by decide +kernel
theorem dX7_come_36 : decode cX7_come 36 = .ok (.ireturn, 1) := by decide +kernel
theorem dX7_leave_0 : decode cX7_leave 0 = .ok (.iload_n 1, 1) := by decide +kernel
theorem dX7_leave_1 : decode cX7_leave 1 = .ok (.ifCond .lt 14, 3) := by decide +kernel
theorem dX7_leave_4 : decode cX7_leave 4 = .ok (.iload_n 1, 1) := by decide +kernel
theorem dX7_leave_5 : decode cX7_leave 5 = .ok (.aload_n 0, 1) := by decide +kernel
theorem dX7_leave_6 : decode cX7_leave 6 = .ok (.getfield 10, 3) := by decide +kernel
theorem dX7_leave_9 : decode cX7_leave 9 = .ok (.getfield 94, 3) := by decide +kernel
theorem dX7_leave_12 : decode cX7_leave 12 = .ok (.if_icmp .le 5, 3) := by decide +kernel
theorem dX7_leave_15 : decode cX7_leave 15 = .ok (.iconst (-1), 1) := by decide +kernel
theorem dX7_leave_16 : decode cX7_leave 16 = .ok (.ireturn, 1) := by decide +kernel
theorem dX7_leave_17 : decode cX7_leave 17 = .ok (.aload_n 0, 1) := by decide +kernel
theorem dX7_leave_18 : decode cX7_leave 18 = .ok (.getfield 10, 3) := by decide +kernel
theorem dX7_leave_21 : decode cX7_leave 21 = .ok (.getfield 94, 3) := by decide +kernel
theorem dX7_leave_24 : decode cX7_leave 24 = .ok (.istore_n 2, 1) := by decide +kernel
theorem dX7_leave_25 : decode cX7_leave 25 = .ok (.aload_n 0, 1) := by decide +kernel
theorem dX7_leave_26 : decode cX7_leave 26 = .ok (.getfield 10, 3) := by decide +kernel
theorem dX7_leave_29 : decode cX7_leave 29 = .ok (.iload_n 1, 1) := by decide +kernel
theorem dX7_leave_30 : decode cX7_leave 30 = .ok (.putfield 94, 3) := by decide +kernel
theorem dX7_leave_33 : decode cX7_leave 33 = .ok (.iload_n 2, 1) := by decide +kernel
theorem dX7_leave_34 : decode cX7_leave 34 = .ok (.ireturn, 1) := by decide +kernel
set_option maxRecDepth 20000 in
theorem ggX7_pass_X2_firstShut : GoodIn wsX7_pass wsX2_firstShut := goodIn_r _ [6, 7, 8, 9, 10, 11, 12, 13, 14, 15, 16, 47, 48, 49, 50, 51, 52, 53, 54, 55, 56, 57, 58, 59] (by decide +kernel) (by decide +kernel)
set_option maxRecDepth 20000 in
theorem gX7_pass_X2_firstShut : GoodIn wsX7_pass (wsV RX7 162 RX2 yX2_firstShut wsX2_firstShut) := goodIn_app (goodIn_of _ (by decide +kernel)) ggX7_pass_X2_firstShut
set_option maxRecDepth 20000 in
theorem ggX7_pass_X2_admit : GoodIn wsX7_pass wsX2_admit := goodIn_r _ [20, 7, 8, 21, 22, 23, 24, 25, 26, 27, 28, 29, 30, 12, 31, 32, 33, 15, 14, 34, 35, 10, 11, 13, 16, 47, 48, 49, 50, 51, 52, 53, 54, 55, 56, 57, 58, 59] (by decide +kernel) (by decide +kernel)
set_option maxRecDepth 20000 in
theorem gX7_pass_X2_admit : GoodIn wsX7_pass (wsV RX7 165 RX2 yX2_admit wsX2_admit) := goodIn_app (goodIn_of _ (by decide +kernel)) ggX7_pass_X2_admit
theorem dX7_pass_0 : decode cX7_pass 0 = .ok (.aload_n 0, 1) := by decide +kernel
theorem dX7_pass_1 : decode cX7_pass 1 = .ok (.getfield 10, 3) := by decide +kernel
theorem dX7_pass_4 : decode cX7_pass 4 = .ok (.invokevirtual 162, 3) := by decide +kernel
theorem dX7_pass_7 : decode cX7_pass 7 = .ok (.istore_n 1, 1) := by decide +kernel
theorem dX7_pass_8 : decode cX7_pass 8 = .ok (.aload_n 0, 1) := by decide +kernel
theorem dX7_pass_9 : decode cX7_pass 9 = .ok (.getfield 10, 3) := by decide +kernel
theorem dX7_pass_12 : decode cX7_pass 12 = .ok (.iconst 1, 1) := by decide +kernel
theorem dX7_pass_13 : decode cX7_pass 13 = .ok (.invokevirtual 165, 3) := by decide +kernel
theorem dX7_pass_16 : decode cX7_pass 16 = .ok (.pop, 1) := by decide +kernel
theorem dX7_pass_17 : decode cX7_pass 17 = .ok (.iload_n 1, 1) := by decide +kernel
theorem dX7_pass_18 : decode cX7_pass 18 = .ok (.ireturn, 1) := by decide +kernel
set_option maxRecDepth 20000 in
theorem ggX7_ticks_X7_isRun : GoodIn wsX7_ticks wsX7_isRun := goodIn_r _ [6] (by decide +kernel) (by decide +kernel)
set_option maxRecDepth 20000 in
theorem gX7_ticks_X7_isRun : GoodIn wsX7_ticks (va_wsS RX7 168 yX7_isRun wsX7_isRun) := goodIn_app (goodIn_of _ (by decide +kernel)) ggX7_ticks_X7_isRun
set_option maxRecDepth 20000 in
theorem ggX7_ticks_X2_runOn : GoodIn wsX7_ticks wsX2_runOn := goodIn_r _ [11, 12, 13, 14, 10, 15, 16, 17, 18, 19, 20, 21, 22, 23, 24, 25, 26, 27, 28, 29, 30, 31, 32, 33, 34, 35, 36, 37, 38, 39, 40, 41, 42, 43, 44, 45, 46, 47, 48, 49, 50, 51, 52, 53, 54, 55, 56, 57, 58, 59, 60, 61, 62, 63, 64, 65, 66, 67, 68, 69, 70, 82, 83, 84, 85, 86, 87, 88, 89, 90, 91, 92, 93, 94, 95, 96, 97] (by decide +kernel) (by decide +kernel)
set_option maxRecDepth 20000 in
theorem gX7_ticks_X2_runOn : GoodIn wsX7_ticks (wsV RX7 171 RX2 yX2_runOn wsX2_runOn) := goodIn_app (goodIn_of _ (by decide +kernel)) ggX7_ticks_X2_runOn
theorem dX7_ticks_0 : decode cX7_ticks 0 = .ok (.iload_n 1, 1) := by decide +kernel
theorem dX7_ticks_1 : decode cX7_ticks 1 = .ok (.invokestatic 168, 3) := by decide +kernel
theorem dX7_ticks_4 : decode cX7_ticks 4 = .ok (.ifCond .ne 5, 3) := by decide +kernel
theorem dX7_ticks_7 : decode cX7_ticks 7 = .ok (.iconst (-1), 1) := by decide +kernel
theorem dX7_ticks_8 : decode cX7_ticks 8 = .ok (.ireturn, 1) := by decide +kernel
theorem dX7_ticks_9 : decode cX7_ticks 9 = .ok (.aload_n 0, 1) := by decide +kernel
theorem dX7_ticks_10 : decode cX7_ticks 10 = .ok (.getfield 10, 3) := by decide +kernel
theorem dX7_ticks_13 : decode cX7_ticks 13 = .ok (.getfield 97, 3) := by decide +kernel
theorem dX7_ticks_16 : decode cX7_ticks 16 = .ok (.iload_n 1, 1) := by decide +kernel
theorem dX7_ticks_17 : decode cX7_ticks 17 = .ok (.iadd, 1) := by decide +kernel
theorem dX7_ticks_18 : decode cX7_ticks 18 = .ok (.sipush 1000, 3) := by decide +kernel
theorem dX7_ticks_21 : decode cX7_ticks 21 = .ok (.if_icmp .lt 6, 3) := by decide +kernel
theorem dX7_ticks_24 : decode cX7_ticks 24 = .ok (.bipush (-3), 2) := by decide +kernel
theorem dX7_ticks_26 : decode cX7_ticks 26 = .ok (.ireturn, 1) := by decide +kernel
theorem dX7_ticks_27 : decode cX7_ticks 27 = .ok (.aload_n 0, 1) := by decide +kernel
theorem dX7_ticks_28 : decode cX7_ticks 28 = .ok (.getfield 10, 3) := by decide +kernel
theorem dX7_ticks_31 : decode cX7_ticks 31 = .ok (.iload_n 1, 1) := by decide +kernel
theorem dX7_ticks_32 : decode cX7_ticks 32 = .ok (.invokevirtual 171, 3) := by decide +kernel
theorem dX7_ticks_35 : decode cX7_ticks 35 = .ok (.ireturn, 1) := by decide +kernel
set_option maxRecDepth 20000 in
theorem ggX7_runs_X7_isRun : GoodIn wsX7_runs wsX7_isRun := goodIn_r _ [11] (by decide +kernel) (by decide +kernel)
set_option maxRecDepth 20000 in
theorem gX7_runs_X7_isRun : GoodIn wsX7_runs (va_wsS RX7 168 yX7_isRun wsX7_isRun) := goodIn_app (goodIn_of _ (by decide +kernel)) ggX7_runs_X7_isRun
set_option maxRecDepth 20000 in
theorem ggX7_runs_X7_startTrial : GoodIn wsX7_runs wsX7_startTrial := goodIn_r _ [15, 1, 16, 17, 18, 19, 20, 21, 22, 23, 24, 25, 26, 27, 28, 29, 30, 31, 32, 33, 34, 35, 36, 37, 38, 39, 40, 41, 42, 43, 44, 45, 46, 47, 48, 49, 50, 51, 52, 53, 54, 55, 56, 57, 58, 102, 103, 104, 105, 106, 107, 108, 109, 110, 111, 112, 113, 114, 115, 116, 117, 118, 119, 120, 121, 122, 123, 124, 125, 126, 127, 128] (by decide +kernel) (by decide +kernel)
set_option maxRecDepth 20000 in
theorem gX7_runs_X7_startTrial : GoodIn wsX7_runs (wsV RX7 174 RX7 yX7_startTrial wsX7_startTrial) := goodIn_app (goodIn_of _ (by decide +kernel)) ggX7_runs_X7_startTrial
set_option maxRecDepth 20000 in
theorem ggX7_runs_X2_tickOn : GoodIn wsX7_runs wsX2_tickOn := goodIn_r _ [62, 63, 64, 65, 20, 66, 24, 25, 29, 27, 67, 68, 69, 44, 70, 46, 48, 71, 72, 73, 74, 22, 23, 75, 76, 77, 78, 79, 30, 80, 81, 5, 82, 31, 83, 84, 85, 35, 86, 58, 87, 40, 37, 57, 88, 89, 90, 91, 38, 92, 93, 94, 95, 39, 96, 4, 6, 113, 114, 115, 116, 117, 118, 119, 120, 121, 122, 123, 124, 125, 126, 127, 128] (by decide +kernel) (by decide +kernel)
set_option maxRecDepth 20000 in
theorem gX7_runs_X2_tickOn : GoodIn wsX7_runs (wsV RX7 177 RX2 yX2_tickOn wsX2_tickOn) := goodIn_app (goodIn_of _ (by decide +kernel)) ggX7_runs_X2_tickOn
set_option maxRecDepth 20000 in
theorem ggX7_runs_X2_heldByAll : GoodIn wsX7_runs wsX2_heldByAll := goodIn_r _ [100, 22, 23, 101, 113, 114, 115, 116, 117, 118, 119, 123, 124, 125, 126, 127, 128] (by decide +kernel) (by decide +kernel)
set_option maxRecDepth 20000 in
theorem gX7_runs_X2_heldByAll : GoodIn wsX7_runs (wsV RX7 186 RX2 yX2_heldByAll wsX2_heldByAll) := goodIn_app (goodIn_of _ (by decide +kernel)) ggX7_runs_X2_heldByAll
theorem dX7_runs_0 : decode cX7_runs 0 = .ok (.iload_n 1, 1) := by decide +kernel
theorem dX7_runs_1 : decode cX7_runs 1 = .ok (.invokestatic 168, 3) := by decide +kernel
theorem dX7_runs_4 : decode cX7_runs 4 = .ok (.ifCond .eq 12, 3) := by decide +kernel
theorem dX7_runs_7 : decode cX7_runs 7 = .ok (.iload_n 2, 1) := by decide +kernel
theorem dX7_runs_8 : decode cX7_runs 8 = .ok (.ifCond .lt 8, 3) := by decide +kernel
theorem dX7_runs_11 : decode cX7_runs 11 = .ok (.iload_n 2, 1) := by decide +kernel
theorem dX7_runs_12 : decode cX7_runs 12 = .ok (.iconst 4, 1) := by decide +kernel
theorem dX7_runs_13 : decode cX7_runs 13 = .ok (.if_icmp .le 5, 3) := by decide +kernel
theorem dX7_runs_16 : decode cX7_runs 16 = .ok (.iconst (-1), 1) := by decide +kernel
theorem dX7_runs_17 : decode cX7_runs 17 = .ok (.ireturn, 1) := by decide +kernel
theorem dX7_runs_18 : decode cX7_runs 18 = .ok (.aload_n 0, 1) := by decide +kernel
theorem dX7_runs_19 : decode cX7_runs 19 = .ok (.invokevirtual 174, 3) := by decide +kernel
theorem dX7_runs_22 : decode cX7_runs 22 = .ok (.iconst 0, 1) := by decide +kernel
theorem dX7_runs_23 : decode cX7_runs 23 = .ok (.istore_n 3, 1) := by decide +kernel
theorem dX7_runs_24 : decode cX7_runs 24 = .ok (.iconst 0, 1) := by decide +kernel
theorem dX7_runs_25 : decode cX7_runs 25 = .ok (.istore 4, 2) := by decide +kernel
theorem dX7_runs_27 : decode cX7_runs 27 = .ok (.iconst 0, 1) := by decide +kernel
theorem dX7_runs_28 : decode cX7_runs 28 = .ok (.istore 5, 2) := by decide +kernel
theorem dX7_runs_30 : decode cX7_runs 30 = .ok (.iload 5, 2) := by decide +kernel
theorem dX7_runs_32 : decode cX7_runs 32 = .ok (.iload_n 1, 1) := by decide +kernel
theorem dX7_runs_33 : decode cX7_runs 33 = .ok (.if_icmp .ge 60, 3) := by decide +kernel
theorem dX7_runs_36 : decode cX7_runs 36 = .ok (.aload_n 0, 1) := by decide +kernel
theorem dX7_runs_37 : decode cX7_runs 37 = .ok (.getfield 16, 3) := by decide +kernel
theorem dX7_runs_40 : decode cX7_runs 40 = .ok (.getfield 103, 3) := by decide +kernel
theorem dX7_runs_43 : decode cX7_runs 43 = .ok (.istore 6, 2) := by decide +kernel
theorem dX7_runs_45 : decode cX7_runs 45 = .ok (.aload_n 0, 1) := by decide +kernel
theorem dX7_runs_46 : decode cX7_runs 46 = .ok (.getfield 16, 3) := by decide +kernel
theorem dX7_runs_49 : decode cX7_runs 49 = .ok (.invokevirtual 177, 3) := by decide +kernel
theorem dX7_runs_52 : decode cX7_runs 52 = .ok (.pop, 1) := by decide +kernel
theorem dX7_runs_53 : decode cX7_runs 53 = .ok (.aload_n 0, 1) := by decide +kernel
theorem dX7_runs_54 : decode cX7_runs 54 = .ok (.getfield 16, 3) := by decide +kernel
theorem dX7_runs_57 : decode cX7_runs 57 = .ok (.getfield 103, 3) := by decide +kernel
theorem dX7_runs_60 : decode cX7_runs 60 = .ok (.iload 6, 2) := by decide +kernel
theorem dX7_runs_62 : decode cX7_runs 62 = .ok (.isub, 1) := by decide +kernel
theorem dX7_runs_63 : decode cX7_runs 63 = .ok (.istore 7, 2) := by decide +kernel
theorem dX7_runs_65 : decode cX7_runs 65 = .ok (.iload_n 3, 1) := by decide +kernel
theorem dX7_runs_66 : decode cX7_runs 66 = .ok (.iload 7, 2) := by decide +kernel
theorem dX7_runs_68 : decode cX7_runs 68 = .ok (.ifCond .le 7, 3) := by decide +kernel
theorem dX7_runs_71 : decode cX7_runs 71 = .ok (.iconst 1, 1) := by decide +kernel
theorem dX7_runs_72 : decode cX7_runs 72 = .ok (.goto 4, 3) := by decide +kernel
theorem dX7_runs_75 : decode cX7_runs 75 = .ok (.iconst 0, 1) := by decide +kernel
theorem dX7_runs_76 : decode cX7_runs 76 = .ok (.iadd, 1) := by decide +kernel
theorem dX7_runs_77 : decode cX7_runs 77 = .ok (.istore_n 3, 1) := by decide +kernel
theorem dX7_runs_78 : decode cX7_runs 78 = .ok (.iload 4, 2) := by decide +kernel
theorem dX7_runs_80 : decode cX7_runs 80 = .ok (.iload 7, 2) := by decide +kernel
theorem dX7_runs_82 : decode cX7_runs 82 = .ok (.invokestatic 180, 3) := by decide +kernel
theorem dX7_runs_85 : decode cX7_runs 85 = .ok (.istore 4, 2) := by decide +kernel
theorem dX7_runs_87 : decode cX7_runs 87 = .ok (.iinc 5 1, 3) := by decide +kernel
theorem dX7_runs_90 : decode cX7_runs 90 = .ok (.goto (-60), 3) := by decide +kernel
theorem dX7_runs_93 : decode cX7_runs 93 = .ok (.iload_n 2, 1) := by decide +kernel
theorem dX7_runs_94 : decode cX7_runs 94 = .ok (.tableswitch 51 0 3 #[30, 38, 46, 48], 30) := by decide +kernel
theorem dX7_runs_124 : decode cX7_runs 124 = .ok (.aload_n 0, 1) := by decide +kernel
theorem dX7_runs_125 : decode cX7_runs 125 = .ok (.getfield 16, 3) := by decide +kernel
theorem dX7_runs_128 : decode cX7_runs 128 = .ok (.getfield 100, 3) := by decide +kernel
theorem dX7_runs_131 : decode cX7_runs 131 = .ok (.ireturn, 1) := by decide +kernel
theorem dX7_runs_132 : decode cX7_runs 132 = .ok (.aload_n 0, 1) := by decide +kernel
theorem dX7_runs_133 : decode cX7_runs 133 = .ok (.getfield 16, 3) := by decide +kernel
theorem dX7_runs_136 : decode cX7_runs 136 = .ok (.getfield 103, 3) := by decide +kernel
theorem dX7_runs_139 : decode cX7_runs 139 = .ok (.ireturn, 1) := by decide +kernel
theorem dX7_runs_140 : decode cX7_runs 140 = .ok (.iload_n 3, 1) := by decide +kernel
theorem dX7_runs_141 : decode cX7_runs 141 = .ok (.ireturn, 1) := by decide +kernel
theorem dX7_runs_142 : decode cX7_runs 142 = .ok (.iload 4, 2) := by decide +kernel
theorem dX7_runs_144 : decode cX7_runs 144 = .ok (.ireturn, 1) := by decide +kernel
theorem dX7_runs_145 : decode cX7_runs 145 = .ok (.aload_n 0, 1) := by decide +kernel
theorem dX7_runs_146 : decode cX7_runs 146 = .ok (.getfield 16, 3) := by decide +kernel
theorem dX7_runs_149 : decode cX7_runs 149 = .ok (.invokevirtual 186, 3) := by decide +kernel
theorem dX7_runs_152 : decode cX7_runs 152 = .ok (.ireturn, 1) := by decide +kernel
set_option maxRecDepth 20000 in
theorem ggX7_ahead_X7_isDoor : GoodIn wsX7_ahead wsX7_isDoor := goodIn_r _ [8, 9, 10, 105, 106, 107, 108, 109, 110, 111, 112, 113, 114, 115, 116, 117, 118, 119, 120, 121, 122] (by decide +kernel) (by decide +kernel)
set_option maxRecDepth 20000 in
theorem gX7_ahead_X7_isDoor : GoodIn wsX7_ahead (wsV RX7 112 RX7 yX7_isDoor wsX7_isDoor) := goodIn_app (goodIn_of _ (by decide +kernel)) ggX7_ahead_X7_isDoor
set_option maxRecDepth 20000 in
theorem ggX7_ahead_X7_isRun : GoodIn wsX7_ahead wsX7_isRun := goodIn_r _ [13] (by decide +kernel) (by decide +kernel)
set_option maxRecDepth 20000 in
theorem gX7_ahead_X7_isRun : GoodIn wsX7_ahead (va_wsS RX7 168 yX7_isRun wsX7_isRun) := goodIn_app (goodIn_of _ (by decide +kernel)) ggX7_ahead_X7_isRun
set_option maxRecDepth 20000 in
theorem ggX7_ahead_X7_startTrial : GoodIn wsX7_ahead wsX7_startTrial := goodIn_r _ [17, 1, 9, 18, 19, 20, 21, 22, 23, 24, 25, 26, 27, 28, 29, 30, 31, 32, 33, 34, 35, 36, 37, 38, 39, 40, 41, 42, 43, 44, 45, 46, 47, 48, 49, 50, 51, 52, 53, 54, 55, 56, 57, 58, 59, 105, 106, 107, 108, 109, 110, 111, 112, 113, 114, 115, 116, 117, 118, 119, 120, 121, 122, 129, 130, 131, 123, 124, 125, 126, 127, 128] (by decide +kernel) (by decide +kernel)
set_option maxRecDepth 20000 in
theorem gX7_ahead_X7_startTrial : GoodIn wsX7_ahead (wsV RX7 174 RX7 yX7_startTrial wsX7_startTrial) := goodIn_app (goodIn_of _ (by decide +kernel)) ggX7_ahead_X7_startTrial
set_option maxRecDepth 20000 in
theorem ggX7_ahead_X2_runOn : GoodIn wsX7_ahead wsX2_runOn := goodIn_r _ [63, 64, 65, 66, 21, 67, 68, 69, 70, 71, 25, 26, 30, 28, 72, 73, 74, 45, 75, 47, 49, 76, 77, 78, 79, 23, 24, 80, 81, 82, 83, 84, 31, 85, 86, 87, 88, 32, 89, 90, 91, 36, 92, 59, 93, 41, 38, 58, 94, 95, 96, 97, 39, 98, 99, 100, 101, 40, 102, 103, 104, 116, 117, 118, 119, 120, 121, 122, 129, 130, 131, 123, 124, 125, 126, 127, 128] (by decide +kernel) (by decide +kernel)
set_option maxRecDepth 20000 in
theorem gX7_ahead_X2_runOn : GoodIn wsX7_ahead (wsV RX7 171 RX2 yX2_runOn wsX2_runOn) := goodIn_app (goodIn_of _ (by decide +kernel)) ggX7_ahead_X2_runOn
theorem dX7_ahead_0 : decode cX7_ahead 0 = .ok (.aload_n 0, 1) := by decide +kernel
theorem dX7_ahead_1 : decode cX7_ahead 1 = .ok (.iload_n 1, 1) := by decide +kernel
theorem dX7_ahead_2 : decode cX7_ahead 2 = .ok (.invokevirtual 112, 3) := by decide +kernel
theorem dX7_ahead_5 : decode cX7_ahead 5 = .ok (.ifCond .eq 10, 3) := by decide +kernel
theorem dX7_ahead_8 : decode cX7_ahead 8 = .ok (.iload_n 2, 1) := by decide +kernel
theorem dX7_ahead_9 : decode cX7_ahead 9 = .ok (.invokestatic 168, 3) := by decide +kernel
theorem dX7_ahead_12 : decode cX7_ahead 12 = .ok (.ifCond .ne 5, 3) := by decide +kernel
theorem dX7_ahead_15 : decode cX7_ahead 15 = .ok (.iconst (-1), 1) := by decide +kernel
theorem dX7_ahead_16 : decode cX7_ahead 16 = .ok (.ireturn, 1) := by decide +kernel
theorem dX7_ahead_17 : decode cX7_ahead 17 = .ok (.aload_n 0, 1) := by decide +kernel
theorem dX7_ahead_18 : decode cX7_ahead 18 = .ok (.invokevirtual 174, 3) := by decide +kernel
theorem dX7_ahead_21 : decode cX7_ahead 21 = .ok (.aload_n 0, 1) := by decide +kernel
theorem dX7_ahead_22 : decode cX7_ahead 22 = .ok (.getfield 16, 3) := by decide +kernel
theorem dX7_ahead_25 : decode cX7_ahead 25 = .ok (.iload_n 2, 1) := by decide +kernel
theorem dX7_ahead_26 : decode cX7_ahead 26 = .ok (.invokevirtual 171, 3) := by decide +kernel
theorem dX7_ahead_29 : decode cX7_ahead 29 = .ok (.pop, 1) := by decide +kernel
theorem dX7_ahead_30 : decode cX7_ahead 30 = .ok (.aload_n 0, 1) := by decide +kernel
theorem dX7_ahead_31 : decode cX7_ahead 31 = .ok (.getfield 16, 3) := by decide +kernel
theorem dX7_ahead_34 : decode cX7_ahead 34 = .ok (.getfield 115, 3) := by decide +kernel
theorem dX7_ahead_37 : decode cX7_ahead 37 = .ok (.iload_n 1, 1) := by decide +kernel
theorem dX7_ahead_38 : decode cX7_ahead 38 = .ok (.aaload, 1) := by decide +kernel
theorem dX7_ahead_39 : decode cX7_ahead 39 = .ok (.getfield 189, 3) := by decide +kernel
theorem dX7_ahead_42 : decode cX7_ahead 42 = .ok (.ireturn, 1) := by decide +kernel
set_option maxRecDepth 20000 in
theorem ggX7_lets_X7_isRun : GoodIn wsX7_lets wsX7_isRun := goodIn_r _ [5] (by decide +kernel) (by decide +kernel)
set_option maxRecDepth 20000 in
theorem gX7_lets_X7_isRun : GoodIn wsX7_lets (va_wsS RX7 168 yX7_isRun wsX7_isRun) := goodIn_app (goodIn_of _ (by decide +kernel)) ggX7_lets_X7_isRun
set_option maxRecDepth 20000 in
theorem ggX7_lets_X7_startTrial : GoodIn wsX7_lets wsX7_startTrial := goodIn_r _ [9, 1, 10, 11, 12, 13, 14, 15, 16, 17, 18, 19, 20, 21, 22, 23, 24, 25, 26, 27, 28, 29, 30, 31, 32, 33, 34, 35, 36, 37, 38, 39, 40, 41, 42, 43, 44, 45, 46, 47, 48, 49, 50, 51, 52, 99, 100, 101, 102, 103, 104, 105, 106, 107, 108, 109, 110, 111, 112, 113, 114, 115, 116, 117, 118, 119, 120, 121, 122, 123, 124, 125] (by decide +kernel) (by decide +kernel)
set_option maxRecDepth 20000 in
theorem gX7_lets_X7_startTrial : GoodIn wsX7_lets (wsV RX7 174 RX7 yX7_startTrial wsX7_startTrial) := goodIn_app (goodIn_of _ (by decide +kernel)) ggX7_lets_X7_startTrial
set_option maxRecDepth 20000 in
theorem ggX7_lets_X2_runOn : GoodIn wsX7_lets wsX2_runOn := goodIn_r _ [56, 57, 58, 59, 14, 60, 61, 62, 63, 64, 18, 19, 23, 21, 65, 66, 67, 38, 68, 40, 42, 69, 70, 71, 72, 16, 17, 73, 74, 75, 76, 77, 24, 78, 79, 80, 81, 25, 82, 83, 84, 29, 85, 52, 86, 34, 31, 51, 87, 88, 89, 90, 32, 91, 92, 93, 94, 33, 95, 96, 97, 110, 111, 112, 113, 114, 115, 116, 117, 118, 119, 120, 121, 122, 123, 124, 125] (by decide +kernel) (by decide +kernel)
set_option maxRecDepth 20000 in
theorem gX7_lets_X2_runOn : GoodIn wsX7_lets (wsV RX7 171 RX2 yX2_runOn wsX2_runOn) := goodIn_app (goodIn_of _ (by decide +kernel)) ggX7_lets_X2_runOn
set_option maxRecDepth 20000 in
theorem ggX7_lets_X2_tickOn : GoodIn wsX7_lets wsX2_tickOn := goodIn_r _ [60, 61, 62, 63, 14, 64, 18, 19, 23, 21, 65, 66, 67, 38, 68, 40, 42, 69, 70, 71, 72, 16, 17, 73, 74, 75, 76, 77, 24, 78, 79, 80, 81, 25, 82, 83, 84, 29, 85, 52, 86, 34, 31, 51, 87, 88, 89, 90, 32, 91, 92, 93, 94, 33, 95, 96, 97, 110, 111, 112, 113, 114, 115, 116, 117, 118, 119, 120, 121, 122, 123, 124, 125] (by decide +kernel) (by decide +kernel)
set_option maxRecDepth 20000 in
theorem gX7_lets_X2_tickOn : GoodIn wsX7_lets (wsV RX7 177 RX2 yX2_tickOn wsX2_tickOn) := goodIn_app (goodIn_of _ (by decide +kernel)) ggX7_lets_X2_tickOn
theorem dX7_lets_0 : decode cX7_lets 0 = .ok (.iload_n 1, 1) := by decide +kernel
theorem dX7_lets_1 : decode cX7_lets 1 = .ok (.invokestatic 168, 3) := by decide +kernel
theorem dX7_lets_4 : decode cX7_lets 4 = .ok (.ifCond .ne 5, 3) := by decide +kernel
theorem dX7_lets_7 : decode cX7_lets 7 = .ok (.iconst (-1), 1) := by decide +kernel
theorem dX7_lets_8 : decode cX7_lets 8 = .ok (.ireturn, 1) := by decide +kernel
theorem dX7_lets_9 : decode cX7_lets 9 = .ok (.aload_n 0, 1) := by decide +kernel
theorem dX7_lets_10 : decode cX7_lets 10 = .ok (.invokevirtual 174, 3) := by decide +kernel
theorem dX7_lets_13 : decode cX7_lets 13 = .ok (.aload_n 0, 1) := by decide +kernel
theorem dX7_lets_14 : decode cX7_lets 14 = .ok (.getfield 16, 3) := by decide +kernel
theorem dX7_lets_17 : decode cX7_lets 17 = .ok (.iload_n 1, 1) := by decide +kernel
theorem dX7_lets_18 : decode cX7_lets 18 = .ok (.invokevirtual 171, 3) := by decide +kernel
theorem dX7_lets_21 : decode cX7_lets 21 = .ok (.pop, 1) := by decide +kernel
theorem dX7_lets_22 : decode cX7_lets 22 = .ok (.aload_n 0, 1) := by decide +kernel
theorem dX7_lets_23 : decode cX7_lets 23 = .ok (.getfield 16, 3) := by decide +kernel
theorem dX7_lets_26 : decode cX7_lets 26 = .ok (.invokevirtual 177, 3) := by decide +kernel
theorem dX7_lets_29 : decode cX7_lets 29 = .ok (.ireturn, 1) := by decide +kernel
set_option maxRecDepth 20000 in
theorem ggX7_turns_X7_isDoor : GoodIn wsX7_turns wsX7_isDoor := goodIn_r _ [8, 9, 10, 105, 106, 107, 108, 109, 110, 111, 112, 113, 114, 115, 116, 117, 118, 119, 120, 121, 122] (by decide +kernel) (by decide +kernel)
set_option maxRecDepth 20000 in
theorem gX7_turns_X7_isDoor : GoodIn wsX7_turns (wsV RX7 112 RX7 yX7_isDoor wsX7_isDoor) := goodIn_app (goodIn_of _ (by decide +kernel)) ggX7_turns_X7_isDoor
set_option maxRecDepth 20000 in
theorem ggX7_turns_X7_isRun : GoodIn wsX7_turns wsX7_isRun := goodIn_r _ [13] (by decide +kernel) (by decide +kernel)
set_option maxRecDepth 20000 in
theorem gX7_turns_X7_isRun : GoodIn wsX7_turns (va_wsS RX7 168 yX7_isRun wsX7_isRun) := goodIn_app (goodIn_of _ (by decide +kernel)) ggX7_turns_X7_isRun
set_option maxRecDepth 20000 in
theorem ggX7_turns_X7_startTrial : GoodIn wsX7_turns wsX7_startTrial := goodIn_r _ [17, 1, 9, 18, 19, 20, 21, 22, 23, 24, 25, 26, 27, 28, 29, 30, 31, 32, 33, 34, 35, 36, 37, 38, 39, 40, 41, 42, 43, 44, 45, 46, 47, 48, 49, 50, 51, 52, 53, 54, 55, 56, 57, 58, 59, 105, 106, 107, 108, 109, 110, 111, 112, 113, 114, 115, 116, 117, 118, 119, 120, 121, 122, 129, 130, 131, 123, 124, 125, 126, 127, 128] (by decide +kernel) (by decide +kernel)
set_option maxRecDepth 20000 in
theorem gX7_turns_X7_startTrial : GoodIn wsX7_turns (wsV RX7 174 RX7 yX7_startTrial wsX7_startTrial) := goodIn_app (goodIn_of _ (by decide +kernel)) ggX7_turns_X7_startTrial
set_option maxRecDepth 20000 in
theorem ggX7_turns_X2_runOn : GoodIn wsX7_turns wsX2_runOn := goodIn_r _ [63, 64, 65, 66, 21, 67, 68, 69, 70, 71, 25, 26, 30, 28, 72, 73, 74, 45, 75, 47, 49, 76, 77, 78, 79, 23, 24, 80, 81, 82, 83, 84, 31, 85, 86, 87, 88, 32, 89, 90, 91, 36, 92, 59, 93, 41, 38, 58, 94, 95, 96, 97, 39, 98, 99, 100, 101, 40, 102, 103, 104, 116, 117, 118, 119, 120, 121, 122, 129, 130, 131, 123, 124, 125, 126, 127, 128] (by decide +kernel) (by decide +kernel)
set_option maxRecDepth 20000 in
theorem gX7_turns_X2_runOn : GoodIn wsX7_turns (wsV RX7 171 RX2 yX2_runOn wsX2_runOn) := goodIn_app (goodIn_of _ (by decide +kernel)) ggX7_turns_X2_runOn
theorem dX7_turns_0 : decode cX7_turns 0 = .ok (.aload_n 0, 1) := by decide +kernel
theorem dX7_turns_1 : decode cX7_turns 1 = .ok (.iload_n 1, 1) := by decide +kernel
theorem dX7_turns_2 : decode cX7_turns 2 = .ok (.invokevirtual 112, 3) := by decide +kernel
theorem dX7_turns_5 : decode cX7_turns 5 = .ok (.ifCond .eq 10, 3) := by decide +kernel
theorem dX7_turns_8 : decode cX7_turns 8 = .ok (.iload_n 2, 1) := by decide +kernel
theorem dX7_turns_9 : decode cX7_turns 9 = .ok (.invokestatic 168, 3) := by decide +kernel
theorem dX7_turns_12 : decode cX7_turns 12 = .ok (.ifCond .ne 5, 3) := by decide +kernel
theorem dX7_turns_15 : decode cX7_turns 15 = .ok (.iconst (-1), 1) := by decide +kernel
theorem dX7_turns_16 : decode cX7_turns 16 = .ok (.ireturn, 1) := by decide +kernel
theorem dX7_turns_17 : decode cX7_turns 17 = .ok (.aload_n 0, 1) := by decide +kernel
theorem dX7_turns_18 : decode cX7_turns 18 = .ok (.invokevirtual 174, 3) := by decide +kernel
theorem dX7_turns_21 : decode cX7_turns 21 = .ok (.aload_n 0, 1) := by decide +kernel
theorem dX7_turns_22 : decode cX7_turns 22 = .ok (.getfield 16, 3) := by decide +kernel
theorem dX7_turns_25 : decode cX7_turns 25 = .ok (.iload_n 2, 1) := by decide +kernel
theorem dX7_turns_26 : decode cX7_turns 26 = .ok (.invokevirtual 171, 3) := by decide +kernel
theorem dX7_turns_29 : decode cX7_turns 29 = .ok (.pop, 1) := by decide +kernel
theorem dX7_turns_30 : decode cX7_turns 30 = .ok (.aload_n 0, 1) := by decide +kernel
theorem dX7_turns_31 : decode cX7_turns 31 = .ok (.getfield 16, 3) := by decide +kernel
theorem dX7_turns_34 : decode cX7_turns 34 = .ok (.getfield 115, 3) := by decide +kernel
theorem dX7_turns_37 : decode cX7_turns 37 = .ok (.iload_n 1, 1) := by decide +kernel
theorem dX7_turns_38 : decode cX7_turns 38 = .ok (.aaload, 1) := by decide +kernel
theorem dX7_turns_39 : decode cX7_turns 39 = .ok (.getfield 192, 3) := by decide +kernel
theorem dX7_turns_42 : decode cX7_turns 42 = .ok (.ireturn, 1) := by decide +kernel
set_option maxRecDepth 20000 in
theorem ggX7_when_X7_startTrial : GoodIn wsX7_when wsX7_startTrial := goodIn_r _ [7, 1, 8, 9, 10, 11, 12, 13, 14, 15, 16, 17, 18, 19, 20, 21, 22, 23, 24, 25, 26, 27, 28, 29, 30, 31, 32, 33, 34, 35, 36, 37, 38, 39, 40, 41, 42, 43, 44, 45, 46, 47, 48, 49, 50, 92, 93, 94, 95, 96, 97, 98, 99, 100, 101, 102, 103, 104, 105, 106, 107, 108, 109, 110, 111, 112, 113, 114, 115, 116, 117, 118] (by decide +kernel) (by decide +kernel)
set_option maxRecDepth 20000 in
theorem gX7_when_X7_startTrial : GoodIn wsX7_when (wsV RX7 174 RX7 yX7_startTrial wsX7_startTrial) := goodIn_app (goodIn_of _ (by decide +kernel)) ggX7_when_X7_startTrial
set_option maxRecDepth 20000 in
theorem ggX7_when_X2_tickOn : GoodIn wsX7_when wsX2_tickOn := goodIn_r _ [54, 55, 56, 57, 12, 58, 16, 17, 21, 19, 59, 60, 61, 36, 62, 38, 40, 63, 64, 65, 66, 14, 15, 67, 68, 69, 70, 71, 22, 72, 73, 74, 75, 23, 76, 77, 78, 27, 79, 50, 80, 32, 29, 49, 81, 82, 83, 84, 30, 85, 86, 87, 88, 31, 89, 90, 91, 103, 104, 105, 106, 107, 108, 109, 110, 111, 112, 113, 114, 115, 116, 117, 118] (by decide +kernel) (by decide +kernel)
set_option maxRecDepth 20000 in
theorem gX7_when_X2_tickOn : GoodIn wsX7_when (wsV RX7 177 RX2 yX2_tickOn wsX2_tickOn) := goodIn_app (goodIn_of _ (by decide +kernel)) ggX7_when_X2_tickOn
theorem dX7_when_0 : decode cX7_when 0 = .ok (.aload_n 0, 1) := by decide +kernel
theorem dX7_when_1 : decode cX7_when 1 = .ok (.invokevirtual 174, 3) := by decide +kernel
theorem dX7_when_4 : decode cX7_when 4 = .ok (.iconst 0, 1) := by decide +kernel
theorem dX7_when_5 : decode cX7_when 5 = .ok (.istore_n 1, 1) := by decide +kernel
theorem dX7_when_6 : decode cX7_when 6 = .ok (.iload_n 1, 1) := by decide +kernel
theorem dX7_when_7 : decode cX7_when 7 = .ok (.bipush 100, 2) := by decide +kernel
theorem dX7_when_9 : decode cX7_when 9 = .ok (.if_icmp .gt 29, 3) := by decide +kernel
theorem dX7_when_12 : decode cX7_when 12 = .ok (.aload_n 0, 1) := by decide +kernel
theorem dX7_when_13 : decode cX7_when 13 = .ok (.getfield 16, 3) := by decide +kernel
theorem dX7_when_16 : decode cX7_when 16 = .ok (.invokevirtual 177, 3) := by decide +kernel
theorem dX7_when_19 : decode cX7_when 19 = .ok (.pop, 1) := by decide +kernel
theorem dX7_when_20 : decode cX7_when 20 = .ok (.aload_n 0, 1) := by decide +kernel
theorem dX7_when_21 : decode cX7_when 21 = .ok (.getfield 16, 3) := by decide +kernel
theorem dX7_when_24 : decode cX7_when 24 = .ok (.getfield 103, 3) := by decide +kernel
theorem dX7_when_27 : decode cX7_when 27 = .ok (.ifCond .le 5, 3) := by decide +kernel
theorem dX7_when_30 : decode cX7_when 30 = .ok (.iload_n 1, 1) := by decide +kernel
theorem dX7_when_31 : decode cX7_when 31 = .ok (.ireturn, 1) := by decide +kernel
theorem dX7_when_32 : decode cX7_when 32 = .ok (.iinc 1 1, 3) := by decide +kernel
theorem dX7_when_35 : decode cX7_when 35 = .ok (.goto (-29), 3) := by decide +kernel
theorem dX7_when_38 : decode cX7_when 38 = .ok (.bipush (-4), 2) := by decide +kernel
theorem dX7_when_40 : decode cX7_when 40 = .ok (.ireturn, 1) := by decide +kernel
set_option maxRecDepth 20000 in
theorem ggX7_depth_X7_isDoor : GoodIn wsX7_depth wsX7_isDoor := goodIn_r _ [5, 6, 7, 119, 120, 121, 122, 123, 124, 125, 126, 127, 128, 129, 130, 131, 132, 133, 134, 135, 136] (by decide +kernel) (by decide +kernel)
set_option maxRecDepth 20000 in
theorem gX7_depth_X7_isDoor : GoodIn wsX7_depth (wsV RX7 112 RX7 yX7_isDoor wsX7_isDoor) := goodIn_app (goodIn_of _ (by decide +kernel)) ggX7_depth_X7_isDoor
set_option maxRecDepth 20000 in
theorem ggX7_depth_X7_isRun : GoodIn wsX7_depth wsX7_isRun := goodIn_r _ [10] (by decide +kernel) (by decide +kernel)
set_option maxRecDepth 20000 in
theorem gX7_depth_X7_isRun : GoodIn wsX7_depth (va_wsS RX7 168 yX7_isRun wsX7_isRun) := goodIn_app (goodIn_of _ (by decide +kernel)) ggX7_depth_X7_isRun
set_option maxRecDepth 20000 in
theorem ggX7_depth_X7_leastUnrefusing : GoodIn wsX7_depth wsX7_leastUnrefusing := goodIn_r _ [14, 15, 16, 17, 18, 19, 4, 20, 21, 22, 23, 24, 25, 26, 27, 6, 28, 29, 30, 31, 32, 33, 34, 35, 36, 37, 38, 39, 40, 41, 42, 43, 44, 45, 46, 47, 48, 49, 50, 51, 52, 53, 54, 55, 56, 57, 58, 59, 60, 61, 62, 63, 64, 65, 66, 67, 68, 69, 70, 71, 72, 73, 74, 75, 76, 77, 78, 79, 80, 81, 82, 83, 84, 85, 86, 87, 88, 89, 90, 91, 92, 93, 94, 95, 96, 97, 98, 99, 100, 101, 102, 103, 104, 105, 106, 107, 108, 109, 110, 111, 112, 113, 114, 115, 116, 117, 118, 119, 120, 121, 122, 123, 124, 125, 126, 127, 128, 129, 130, 131, 132, 133, 134, 135, 136, 137, 138, 139, 140, 141, 142, 143, 144, 145] (by decide +kernel) (by decide +kernel)
set_option maxRecDepth 20000 in
theorem gX7_depth_X7_leastUnrefusing : GoodIn wsX7_depth (wsV RX7 195 RX7 yX7_leastUnrefusing wsX7_leastUnrefusing) := goodIn_app (goodIn_of _ (by decide +kernel)) ggX7_depth_X7_leastUnrefusing
theorem dX7_depth_0 : decode cX7_depth 0 = .ok (.aload_n 0, 1) := by decide +kernel
theorem dX7_depth_1 : decode cX7_depth 1 = .ok (.iload_n 1, 1) := by decide +kernel
theorem dX7_depth_2 : decode cX7_depth 2 = .ok (.invokevirtual 112, 3) := by decide +kernel
theorem dX7_depth_5 : decode cX7_depth 5 = .ok (.ifCond .eq 10, 3) := by decide +kernel
theorem dX7_depth_8 : decode cX7_depth 8 = .ok (.iload_n 2, 1) := by decide +kernel
theorem dX7_depth_9 : decode cX7_depth 9 = .ok (.invokestatic 168, 3) := by decide +kernel
theorem dX7_depth_12 : decode cX7_depth 12 = .ok (.ifCond .ne 5, 3) := by decide +kernel
theorem dX7_depth_15 : decode cX7_depth 15 = .ok (.iconst (-1), 1) := by decide +kernel
theorem dX7_depth_16 : decode cX7_depth 16 = .ok (.ireturn, 1) := by decide +kernel
theorem dX7_depth_17 : decode cX7_depth 17 = .ok (.aload_n 0, 1) := by decide +kernel
theorem dX7_depth_18 : decode cX7_depth 18 = .ok (.iload_n 1, 1) := by decide +kernel
theorem dX7_depth_19 : decode cX7_depth 19 = .ok (.iconst 1, 1) := by decide +kernel
theorem dX7_depth_20 : decode cX7_depth 20 = .ok (.iload_n 2, 1) := by decide +kernel
theorem dX7_depth_21 : decode cX7_depth 21 = .ok (.invokevirtual 195, 3) := by decide +kernel
theorem dX7_depth_24 : decode cX7_depth 24 = .ok (.ireturn, 1) := by decide +kernel
set_option maxRecDepth 20000 in
theorem ggX7_rate_X7_isDoor : GoodIn wsX7_rate wsX7_isDoor := goodIn_r _ [5, 6, 7, 119, 120, 121, 122, 123, 124, 125, 126, 127, 128, 129, 130, 131, 132, 133, 134, 135, 136] (by decide +kernel) (by decide +kernel)
set_option maxRecDepth 20000 in
theorem gX7_rate_X7_isDoor : GoodIn wsX7_rate (wsV RX7 112 RX7 yX7_isDoor wsX7_isDoor) := goodIn_app (goodIn_of _ (by decide +kernel)) ggX7_rate_X7_isDoor
set_option maxRecDepth 20000 in
theorem ggX7_rate_X7_isRun : GoodIn wsX7_rate wsX7_isRun := goodIn_r _ [10] (by decide +kernel) (by decide +kernel)
set_option maxRecDepth 20000 in
theorem gX7_rate_X7_isRun : GoodIn wsX7_rate (va_wsS RX7 168 yX7_isRun wsX7_isRun) := goodIn_app (goodIn_of _ (by decide +kernel)) ggX7_rate_X7_isRun
set_option maxRecDepth 20000 in
theorem ggX7_rate_X7_leastUnrefusing : GoodIn wsX7_rate wsX7_leastUnrefusing := goodIn_r _ [14, 15, 16, 17, 18, 19, 4, 20, 21, 22, 23, 24, 25, 26, 27, 6, 28, 29, 30, 31, 32, 33, 34, 35, 36, 37, 38, 39, 40, 41, 42, 43, 44, 45, 46, 47, 48, 49, 50, 51, 52, 53, 54, 55, 56, 57, 58, 59, 60, 61, 62, 63, 64, 65, 66, 67, 68, 69, 70, 71, 72, 73, 74, 75, 76, 77, 78, 79, 80, 81, 82, 83, 84, 85, 86, 87, 88, 89, 90, 91, 92, 93, 94, 95, 96, 97, 98, 99, 100, 101, 102, 103, 104, 105, 106, 107, 108, 109, 110, 111, 112, 113, 114, 115, 116, 117, 118, 119, 120, 121, 122, 123, 124, 125, 126, 127, 128, 129, 130, 131, 132, 133, 134, 135, 136, 137, 138, 139, 140, 141, 142, 143, 144, 145] (by decide +kernel) (by decide +kernel)
set_option maxRecDepth 20000 in
theorem gX7_rate_X7_leastUnrefusing : GoodIn wsX7_rate (wsV RX7 195 RX7 yX7_leastUnrefusing wsX7_leastUnrefusing) := goodIn_app (goodIn_of _ (by decide +kernel)) ggX7_rate_X7_leastUnrefusing
theorem dX7_rate_0 : decode cX7_rate 0 = .ok (.aload_n 0, 1) := by decide +kernel
theorem dX7_rate_1 : decode cX7_rate 1 = .ok (.iload_n 1, 1) := by decide +kernel
theorem dX7_rate_2 : decode cX7_rate 2 = .ok (.invokevirtual 112, 3) := by decide +kernel
theorem dX7_rate_5 : decode cX7_rate 5 = .ok (.ifCond .eq 10, 3) := by decide +kernel
theorem dX7_rate_8 : decode cX7_rate 8 = .ok (.iload_n 2, 1) := by decide +kernel
theorem dX7_rate_9 : decode cX7_rate 9 = .ok (.invokestatic 168, 3) := by decide +kernel
theorem dX7_rate_12 : decode cX7_rate 12 = .ok (.ifCond .ne 5, 3) := by decide +kernel
theorem dX7_rate_15 : decode cX7_rate 15 = .ok (.iconst (-1), 1) := by decide +kernel
theorem dX7_rate_16 : decode cX7_rate 16 = .ok (.ireturn, 1) := by decide +kernel
theorem dX7_rate_17 : decode cX7_rate 17 = .ok (.aload_n 0, 1) := by decide +kernel
theorem dX7_rate_18 : decode cX7_rate 18 = .ok (.iload_n 1, 1) := by decide +kernel
theorem dX7_rate_19 : decode cX7_rate 19 = .ok (.iconst 2, 1) := by decide +kernel
theorem dX7_rate_20 : decode cX7_rate 20 = .ok (.iload_n 2, 1) := by decide +kernel
theorem dX7_rate_21 : decode cX7_rate 21 = .ok (.invokevirtual 195, 3) := by decide +kernel
theorem dX7_rate_24 : decode cX7_rate 24 = .ok (.ireturn, 1) := by decide +kernel
set_option maxRecDepth 20000 in
theorem ggX7_swap_X7_isRun : GoodIn wsX7_swap wsX7_isRun := goodIn_r _ [7] (by decide +kernel) (by decide +kernel)
set_option maxRecDepth 20000 in
theorem gX7_swap_X7_isRun : GoodIn wsX7_swap (va_wsS RX7 168 yX7_isRun wsX7_isRun) := goodIn_app (goodIn_of _ (by decide +kernel)) ggX7_swap_X7_isRun
set_option maxRecDepth 20000 in
theorem ggX7_swap_X7_isChoice : GoodIn wsX7_swap wsX7_isChoice := goodIn_r _ [10] (by decide +kernel) (by decide +kernel)
set_option maxRecDepth 20000 in
theorem gX7_swap_X7_isChoice : GoodIn wsX7_swap (va_wsS RX7 199 yX7_isChoice wsX7_isChoice) := goodIn_app (goodIn_of _ (by decide +kernel)) ggX7_swap_X7_isChoice
set_option maxRecDepth 20000 in
theorem ggX7_swap_X7_letAsItIs : GoodIn wsX7_swap wsX7_letAsItIs := goodIn_r _ [14, 3, 15, 16, 17, 6, 18, 1, 19, 20, 21, 22, 23, 24, 25, 26, 27, 28, 29, 30, 31, 32, 33, 34, 35, 36, 37, 38, 39, 40, 41, 42, 43, 44, 45, 46, 47, 48, 49, 50, 51, 52, 53, 54, 55, 56, 57, 58, 59, 60, 61, 62, 63, 64, 65, 66, 67, 68, 69, 70, 71, 72, 73, 74, 75, 76, 77, 78, 79, 80, 81, 82, 83, 84, 85, 86, 87, 88, 89, 90, 91, 92, 93, 94, 95, 96, 97, 98, 99, 100, 101, 102, 103, 104, 105, 110, 111, 112, 113, 114, 115, 116, 117, 118, 119, 120, 121, 122, 123, 124, 125, 126, 127, 128, 129, 130, 131, 132, 133, 134, 135, 136] (by decide +kernel) (by decide +kernel)
set_option maxRecDepth 20000 in
theorem gX7_swap_X7_letAsItIs : GoodIn wsX7_swap (wsV RX7 202 RX7 yX7_letAsItIs wsX7_letAsItIs) := goodIn_app (goodIn_of _ (by decide +kernel)) ggX7_swap_X7_letAsItIs
set_option maxRecDepth 20000 in
theorem ggX7_swap_X7_startTrial : GoodIn wsX7_swap wsX7_startTrial := goodIn_r _ [18, 3, 1, 19, 20, 21, 22, 23, 24, 25, 26, 27, 28, 29, 30, 31, 32, 33, 34, 35, 36, 37, 38, 39, 40, 41, 42, 43, 44, 45, 46, 47, 48, 49, 50, 51, 52, 53, 54, 55, 56, 57, 58, 59, 60, 110, 111, 112, 113, 114, 115, 116, 117, 118, 119, 120, 121, 122, 123, 124, 125, 126, 127, 128, 129, 130, 131, 132, 133, 134, 135, 136] (by decide +kernel) (by decide +kernel)
set_option maxRecDepth 20000 in
theorem gX7_swap_X7_startTrial : GoodIn wsX7_swap (wsV RX7 174 RX7 yX7_startTrial wsX7_startTrial) := goodIn_app (goodIn_of _ (by decide +kernel)) ggX7_swap_X7_startTrial
set_option maxRecDepth 20000 in
theorem ggX7_swap_X2_exchange : GoodIn wsX7_swap wsX2_exchange := goodIn_r _ [109, 25, 121, 122, 123, 124, 125, 126, 127] (by decide +kernel) (by decide +kernel)
set_option maxRecDepth 20000 in
theorem gX7_swap_X2_exchange : GoodIn wsX7_swap (wsV RX7 205 RX2 yX2_exchange wsX2_exchange) := goodIn_app (goodIn_of _ (by decide +kernel)) ggX7_swap_X2_exchange
set_option maxRecDepth 20000 in
theorem ggX7_swap_X2_runOn : GoodIn wsX7_swap wsX2_runOn := goodIn_r _ [64, 65, 66, 67, 22, 68, 69, 70, 71, 72, 26, 27, 31, 29, 73, 74, 75, 46, 76, 48, 50, 77, 78, 79, 80, 24, 25, 81, 82, 83, 84, 85, 32, 86, 87, 88, 89, 33, 90, 91, 92, 37, 93, 60, 94, 42, 39, 59, 95, 96, 97, 98, 40, 99, 100, 101, 102, 41, 103, 104, 105, 121, 122, 123, 124, 125, 126, 127, 128, 129, 130, 131, 132, 133, 134, 135, 136] (by decide +kernel) (by decide +kernel)
set_option maxRecDepth 20000 in
theorem gX7_swap_X2_runOn : GoodIn wsX7_swap (wsV RX7 171 RX2 yX2_runOn wsX2_runOn) := goodIn_app (goodIn_of _ (by decide +kernel)) ggX7_swap_X2_runOn
theorem dX7_swap_0 : decode cX7_swap 0 = .ok (.iload_n 1, 1) := by decide +kernel
theorem dX7_swap_1 : decode cX7_swap 1 = .ok (.invokestatic 168, 3) := by decide +kernel
theorem dX7_swap_4 : decode cX7_swap 4 = .ok (.ifCond .eq 10, 3) := by decide +kernel
theorem dX7_swap_7 : decode cX7_swap 7 = .ok (.iload_n 2, 1) := by decide +kernel
theorem dX7_swap_8 : decode cX7_swap 8 = .ok (.invokestatic 199, 3) := by decide +kernel
theorem dX7_swap_11 : decode cX7_swap 11 = .ok (.ifCond .ne 5, 3) := by decide +kernel
theorem dX7_swap_14 : decode cX7_swap 14 = .ok (.iconst (-1), 1) := by decide +kernel
theorem dX7_swap_15 : decode cX7_swap 15 = .ok (.ireturn, 1) := by decide +kernel
theorem dX7_swap_16 : decode cX7_swap 16 = .ok (.aload_n 0, 1) := by decide +kernel
theorem dX7_swap_17 : decode cX7_swap 17 = .ok (.iload_n 1, 1) := by decide +kernel
theorem dX7_swap_18 : decode cX7_swap 18 = .ok (.invokevirtual 202, 3) := by decide +kernel
theorem dX7_swap_21 : decode cX7_swap 21 = .ok (.istore_n 3, 1) := by decide +kernel
theorem dX7_swap_22 : decode cX7_swap 22 = .ok (.bipush (-4), 2) := by decide +kernel
theorem dX7_swap_24 : decode cX7_swap 24 = .ok (.istore 4, 2) := by decide +kernel
theorem dX7_swap_26 : decode cX7_swap 26 = .ok (.iconst 0, 1) := by decide +kernel
theorem dX7_swap_27 : decode cX7_swap 27 = .ok (.istore 5, 2) := by decide +kernel
theorem dX7_swap_29 : decode cX7_swap 29 = .ok (.iload 5, 2) := by decide +kernel
theorem dX7_swap_31 : decode cX7_swap 31 = .ok (.aload_n 0, 1) := by decide +kernel
theorem dX7_swap_32 : decode cX7_swap 32 = .ok (.getfield 10, 3) := by decide +kernel
theorem dX7_swap_35 : decode cX7_swap 35 = .ok (.getfield 91, 3) := by decide +kernel
theorem dX7_swap_38 : decode cX7_swap 38 = .ok (.if_icmp .ge 77, 3) := by decide +kernel
theorem dX7_swap_41 : decode cX7_swap 41 = .ok (.iload 5, 2) := by decide +kernel
theorem dX7_swap_43 : decode cX7_swap 43 = .ok (.iconst 1, 1) := by decide +kernel
theorem dX7_swap_44 : decode cX7_swap 44 = .ok (.iadd, 1) := by decide +kernel
theorem dX7_swap_45 : decode cX7_swap 45 = .ok (.istore 6, 2) := by decide +kernel
theorem dX7_swap_47 : decode cX7_swap 47 = .ok (.iload 6, 2) := by decide +kernel
theorem dX7_swap_49 : decode cX7_swap 49 = .ok (.aload_n 0, 1) := by decide +kernel
theorem dX7_swap_50 : decode cX7_swap 50 = .ok (.getfield 10, 3) := by decide +kernel
theorem dX7_swap_53 : decode cX7_swap 53 = .ok (.getfield 91, 3) := by decide +kernel
theorem dX7_swap_56 : decode cX7_swap 56 = .ok (.if_icmp .ge 53, 3) := by decide +kernel
theorem dX7_swap_59 : decode cX7_swap 59 = .ok (.aload_n 0, 1) := by decide +kernel
theorem dX7_swap_60 : decode cX7_swap 60 = .ok (.invokevirtual 174, 3) := by decide +kernel
theorem dX7_swap_63 : decode cX7_swap 63 = .ok (.aload_n 0, 1) := by decide +kernel
theorem dX7_swap_64 : decode cX7_swap 64 = .ok (.getfield 16, 3) := by decide +kernel
theorem dX7_swap_67 : decode cX7_swap 67 = .ok (.iload 5, 2) := by decide +kernel
theorem dX7_swap_69 : decode cX7_swap 69 = .ok (.iload 6, 2) := by decide +kernel
theorem dX7_swap_71 : decode cX7_swap 71 = .ok (.invokevirtual 205, 3) := by decide +kernel
theorem dX7_swap_74 : decode cX7_swap 74 = .ok (.aload_n 0, 1) := by decide +kernel
theorem dX7_swap_75 : decode cX7_swap 75 = .ok (.getfield 16, 3) := by decide +kernel
theorem dX7_swap_78 : decode cX7_swap 78 = .ok (.iload_n 1, 1) := by decide +kernel
theorem dX7_swap_79 : decode cX7_swap 79 = .ok (.invokevirtual 171, 3) := by decide +kernel
theorem dX7_swap_82 : decode cX7_swap 82 = .ok (.istore 7, 2) := by decide +kernel
theorem dX7_swap_84 : decode cX7_swap 84 = .ok (.iload 7, 2) := by decide +kernel
theorem dX7_swap_86 : decode cX7_swap 86 = .ok (.iload_n 3, 1) := by decide +kernel
theorem dX7_swap_87 : decode cX7_swap 87 = .ok (.if_icmp .le 16, 3) := by decide +kernel
theorem dX7_swap_90 : decode cX7_swap 90 = .ok (.iload 7, 2) := by decide +kernel
theorem dX7_swap_92 : decode cX7_swap 92 = .ok (.istore_n 3, 1) := by decide +kernel
theorem dX7_swap_93 : decode cX7_swap 93 = .ok (.bipush 10, 2) := by decide +kernel
theorem dX7_swap_95 : decode cX7_swap 95 = .ok (.iload 5, 2) := by decide +kernel
theorem dX7_swap_97 : decode cX7_swap 97 = .ok (.imul, 1) := by decide +kernel
theorem dX7_swap_98 : decode cX7_swap 98 = .ok (.iload 6, 2) := by decide +kernel
theorem dX7_swap_100 : decode cX7_swap 100 = .ok (.iadd, 1) := by decide +kernel
theorem dX7_swap_101 : decode cX7_swap 101 = .ok (.istore 4, 2) := by decide +kernel
theorem dX7_swap_103 : decode cX7_swap 103 = .ok (.iinc 6 1, 3) := by decide +kernel
theorem dX7_swap_106 : decode cX7_swap 106 = .ok (.goto (-59), 3) := by decide +kernel
theorem dX7_swap_109 : decode cX7_swap 109 = .ok (.iinc 5 1, 3) := by decide +kernel
theorem dX7_swap_112 : decode cX7_swap 112 = .ok (.goto (-83), 3) := by decide +kernel
theorem dX7_swap_115 : decode cX7_swap 115 = .ok (.iload 4, 2) := by decide +kernel
theorem dX7_swap_117 : decode cX7_swap 117 = .ok (.bipush (-4), 2) := by decide +kernel
theorem dX7_swap_119 : decode cX7_swap 119 = .ok (.if_icmp .eq 7, 3) := by decide +kernel
theorem dX7_swap_122 : decode cX7_swap 122 = .ok (.iload_n 2, 1) := by decide +kernel
theorem dX7_swap_123 : decode cX7_swap 123 = .ok (.ifCond .ne 8, 3) := by decide +kernel
theorem dX7_swap_126 : decode cX7_swap 126 = .ok (.iload 4, 2) := by decide +kernel
theorem dX7_swap_128 : decode cX7_swap 128 = .ok (.goto 4, 3) := by decide +kernel
theorem dX7_swap_131 : decode cX7_swap 131 = .ok (.iload_n 3, 1) := by decide +kernel
theorem dX7_swap_132 : decode cX7_swap 132 = .ok (.ireturn, 1) := by decide +kernel
set_option maxRecDepth 20000 in
theorem ggX7_open_X7_isRun : GoodIn wsX7_open wsX7_isRun := goodIn_r _ [9] (by decide +kernel) (by decide +kernel)
set_option maxRecDepth 20000 in
theorem gX7_open_X7_isRun : GoodIn wsX7_open (va_wsS RX7 168 yX7_isRun wsX7_isRun) := goodIn_app (goodIn_of _ (by decide +kernel)) ggX7_open_X7_isRun
set_option maxRecDepth 20000 in
theorem ggX7_open_X7_isChoice : GoodIn wsX7_open wsX7_isChoice := goodIn_r _ [12] (by decide +kernel) (by decide +kernel)
set_option maxRecDepth 20000 in
theorem gX7_open_X7_isChoice : GoodIn wsX7_open (va_wsS RX7 199 yX7_isChoice wsX7_isChoice) := goodIn_app (goodIn_of _ (by decide +kernel)) ggX7_open_X7_isChoice
set_option maxRecDepth 20000 in
theorem ggX7_open_X7_letAsItIs : GoodIn wsX7_open wsX7_letAsItIs := goodIn_r _ [16, 3, 17, 18, 19, 8, 20, 1, 21, 22, 23, 24, 25, 26, 27, 28, 29, 30, 31, 32, 33, 34, 35, 36, 37, 38, 39, 40, 41, 42, 43, 44, 45, 46, 47, 48, 49, 50, 51, 52, 53, 54, 55, 56, 57, 58, 59, 60, 61, 62, 63, 64, 65, 66, 67, 68, 69, 70, 71, 72, 73, 74, 75, 76, 77, 78, 79, 80, 81, 82, 83, 84, 85, 86, 87, 88, 89, 90, 91, 92, 93, 94, 95, 96, 97, 98, 99, 100, 101, 102, 103, 104, 105, 106, 107, 108, 109, 110, 111, 112, 113, 114, 115, 116, 117, 118, 119, 120, 121, 122, 123, 124, 125, 132, 133, 134, 126, 127, 128, 129, 130, 131] (by decide +kernel) (by decide +kernel)
set_option maxRecDepth 20000 in
theorem gX7_open_X7_letAsItIs : GoodIn wsX7_open (wsV RX7 202 RX7 yX7_letAsItIs wsX7_letAsItIs) := goodIn_app (goodIn_of _ (by decide +kernel)) ggX7_open_X7_letAsItIs
set_option maxRecDepth 20000 in
theorem ggX7_open_X7_startTrial : GoodIn wsX7_open wsX7_startTrial := goodIn_r _ [20, 3, 1, 21, 22, 23, 24, 25, 26, 27, 28, 29, 30, 31, 32, 33, 34, 35, 36, 37, 38, 39, 40, 41, 42, 43, 44, 45, 46, 47, 48, 49, 50, 51, 52, 53, 54, 55, 56, 57, 58, 59, 60, 61, 62, 108, 109, 110, 111, 112, 113, 114, 115, 116, 117, 118, 119, 120, 121, 122, 123, 124, 125, 132, 133, 134, 126, 127, 128, 129, 130, 131] (by decide +kernel) (by decide +kernel)
set_option maxRecDepth 20000 in
theorem gX7_open_X7_startTrial : GoodIn wsX7_open (wsV RX7 174 RX7 yX7_startTrial wsX7_startTrial) := goodIn_app (goodIn_of _ (by decide +kernel)) ggX7_open_X7_startTrial
set_option maxRecDepth 20000 in
theorem ggX7_open_X2_runOn : GoodIn wsX7_open wsX2_runOn := goodIn_r _ [66, 67, 68, 69, 24, 70, 71, 72, 73, 74, 28, 29, 33, 31, 75, 76, 77, 48, 78, 50, 52, 79, 80, 81, 82, 26, 27, 83, 84, 85, 86, 87, 34, 88, 89, 90, 91, 35, 92, 93, 94, 39, 95, 62, 96, 44, 41, 61, 97, 98, 99, 100, 42, 101, 102, 103, 104, 43, 105, 106, 107, 119, 120, 121, 122, 123, 124, 125, 132, 133, 134, 126, 127, 128, 129, 130, 131] (by decide +kernel) (by decide +kernel)
set_option maxRecDepth 20000 in
theorem gX7_open_X2_runOn : GoodIn wsX7_open (wsV RX7 171 RX2 yX2_runOn wsX2_runOn) := goodIn_app (goodIn_of _ (by decide +kernel)) ggX7_open_X2_runOn
theorem dX7_open_0 : decode cX7_open 0 = .ok (.iload_n 1, 1) := by decide +kernel
theorem dX7_open_1 : decode cX7_open 1 = .ok (.invokestatic 168, 3) := by decide +kernel
theorem dX7_open_4 : decode cX7_open 4 = .ok (.ifCond .eq 10, 3) := by decide +kernel
theorem dX7_open_7 : decode cX7_open 7 = .ok (.iload_n 2, 1) := by decide +kernel
theorem dX7_open_8 : decode cX7_open 8 = .ok (.invokestatic 199, 3) := by decide +kernel
theorem dX7_open_11 : decode cX7_open 11 = .ok (.ifCond .ne 5, 3) := by decide +kernel
theorem dX7_open_14 : decode cX7_open 14 = .ok (.iconst (-1), 1) := by decide +kernel
theorem dX7_open_15 : decode cX7_open 15 = .ok (.ireturn, 1) := by decide +kernel
theorem dX7_open_16 : decode cX7_open 16 = .ok (.aload_n 0, 1) := by decide +kernel
theorem dX7_open_17 : decode cX7_open 17 = .ok (.iload_n 1, 1) := by decide +kernel
theorem dX7_open_18 : decode cX7_open 18 = .ok (.invokevirtual 202, 3) := by decide +kernel
theorem dX7_open_21 : decode cX7_open 21 = .ok (.istore_n 3, 1) := by decide +kernel
theorem dX7_open_22 : decode cX7_open 22 = .ok (.bipush (-4), 2) := by decide +kernel
theorem dX7_open_24 : decode cX7_open 24 = .ok (.istore 4, 2) := by decide +kernel
theorem dX7_open_26 : decode cX7_open 26 = .ok (.iconst 0, 1) := by decide +kernel
theorem dX7_open_27 : decode cX7_open 27 = .ok (.istore 5, 2) := by decide +kernel
theorem dX7_open_29 : decode cX7_open 29 = .ok (.iload 5, 2) := by decide +kernel
theorem dX7_open_31 : decode cX7_open 31 = .ok (.aload_n 0, 1) := by decide +kernel
theorem dX7_open_32 : decode cX7_open 32 = .ok (.getfield 10, 3) := by decide +kernel
theorem dX7_open_35 : decode cX7_open 35 = .ok (.getfield 91, 3) := by decide +kernel
theorem dX7_open_38 : decode cX7_open 38 = .ok (.if_icmp .ge 50, 3) := by decide +kernel
theorem dX7_open_41 : decode cX7_open 41 = .ok (.aload_n 0, 1) := by decide +kernel
theorem dX7_open_42 : decode cX7_open 42 = .ok (.invokevirtual 174, 3) := by decide +kernel
theorem dX7_open_45 : decode cX7_open 45 = .ok (.aload_n 0, 1) := by decide +kernel
theorem dX7_open_46 : decode cX7_open 46 = .ok (.getfield 16, 3) := by decide +kernel
theorem dX7_open_49 : decode cX7_open 49 = .ok (.getfield 115, 3) := by decide +kernel
theorem dX7_open_52 : decode cX7_open 52 = .ok (.iload 5, 2) := by decide +kernel
theorem dX7_open_54 : decode cX7_open 54 = .ok (.aaload, 1) := by decide +kernel
theorem dX7_open_55 : decode cX7_open 55 = .ok (.iconst 1, 1) := by decide +kernel
theorem dX7_open_56 : decode cX7_open 56 = .ok (.putfield 208, 3) := by decide +kernel
theorem dX7_open_59 : decode cX7_open 59 = .ok (.aload_n 0, 1) := by decide +kernel
theorem dX7_open_60 : decode cX7_open 60 = .ok (.getfield 16, 3) := by decide +kernel
theorem dX7_open_63 : decode cX7_open 63 = .ok (.iload_n 1, 1) := by decide +kernel
theorem dX7_open_64 : decode cX7_open 64 = .ok (.invokevirtual 171, 3) := by decide +kernel
theorem dX7_open_67 : decode cX7_open 67 = .ok (.istore 6, 2) := by decide +kernel
theorem dX7_open_69 : decode cX7_open 69 = .ok (.iload 6, 2) := by decide +kernel
theorem dX7_open_71 : decode cX7_open 71 = .ok (.iload_n 3, 1) := by decide +kernel
theorem dX7_open_72 : decode cX7_open 72 = .ok (.if_icmp .le 10, 3) := by decide +kernel
theorem dX7_open_75 : decode cX7_open 75 = .ok (.iload 6, 2) := by decide +kernel
theorem dX7_open_77 : decode cX7_open 77 = .ok (.istore_n 3, 1) := by decide +kernel
theorem dX7_open_78 : decode cX7_open 78 = .ok (.iload 5, 2) := by decide +kernel
theorem dX7_open_80 : decode cX7_open 80 = .ok (.istore 4, 2) := by decide +kernel
theorem dX7_open_82 : decode cX7_open 82 = .ok (.iinc 5 1, 3) := by decide +kernel
theorem dX7_open_85 : decode cX7_open 85 = .ok (.goto (-56), 3) := by decide +kernel
theorem dX7_open_88 : decode cX7_open 88 = .ok (.iload 4, 2) := by decide +kernel
theorem dX7_open_90 : decode cX7_open 90 = .ok (.bipush (-4), 2) := by decide +kernel
theorem dX7_open_92 : decode cX7_open 92 = .ok (.if_icmp .eq 7, 3) := by decide +kernel
theorem dX7_open_95 : decode cX7_open 95 = .ok (.iload_n 2, 1) := by decide +kernel
theorem dX7_open_96 : decode cX7_open 96 = .ok (.ifCond .ne 8, 3) := by decide +kernel
theorem dX7_open_99 : decode cX7_open 99 = .ok (.iload 4, 2) := by decide +kernel
theorem dX7_open_101 : decode cX7_open 101 = .ok (.goto 4, 3) := by decide +kernel
theorem dX7_open_104 : decode cX7_open 104 = .ok (.iload_n 3, 1) := by decide +kernel
theorem dX7_open_105 : decode cX7_open 105 = .ok (.ireturn, 1) := by decide +kernel
set_option maxRecDepth 20000 in
theorem ggX7_kind_X7_isDoor : GoodIn wsX7_kind wsX7_isDoor := goodIn_r _ [5, 6, 7, 115, 116, 117, 118, 119, 120, 121, 122, 123, 124, 125, 126, 127, 128, 129, 130, 131, 132] (by decide +kernel) (by decide +kernel)
set_option maxRecDepth 20000 in
theorem gX7_kind_X7_isDoor : GoodIn wsX7_kind (wsV RX7 112 RX7 yX7_isDoor wsX7_isDoor) := goodIn_app (goodIn_of _ (by decide +kernel)) ggX7_kind_X7_isDoor
set_option maxRecDepth 20000 in
theorem ggX7_kind_X7_isRun : GoodIn wsX7_kind wsX7_isRun := goodIn_r _ [10] (by decide +kernel) (by decide +kernel)
set_option maxRecDepth 20000 in
theorem gX7_kind_X7_isRun : GoodIn wsX7_kind (va_wsS RX7 168 yX7_isRun wsX7_isRun) := goodIn_app (goodIn_of _ (by decide +kernel)) ggX7_kind_X7_isRun
set_option maxRecDepth 20000 in
theorem ggX7_kind_X7_isChoice : GoodIn wsX7_kind wsX7_isChoice := goodIn_r _ [13] (by decide +kernel) (by decide +kernel)
set_option maxRecDepth 20000 in
theorem gX7_kind_X7_isChoice : GoodIn wsX7_kind (va_wsS RX7 199 yX7_isChoice wsX7_isChoice) := goodIn_app (goodIn_of _ (by decide +kernel)) ggX7_kind_X7_isChoice
set_option maxRecDepth 20000 in
theorem ggX7_kind_X7_bestChange : GoodIn wsX7_kind wsX7_bestChange := goodIn_r _ [17, 18, 19, 20, 21, 22, 4, 23, 6, 24, 25, 26, 27, 28, 29, 30, 31, 32, 33, 34, 35, 36, 37, 38, 39, 40, 41, 42, 43, 44, 45, 46, 47, 48, 49, 50, 51, 52, 53, 54, 55, 56, 57, 58, 59, 60, 61, 62, 63, 64, 65, 66, 67, 68, 69, 70, 71, 72, 73, 74, 75, 76, 77, 78, 79, 80, 81, 82, 83, 84, 85, 86, 87, 88, 89, 90, 91, 92, 93, 94, 95, 96, 97, 98, 99, 100, 101, 102, 103, 104, 105, 106, 107, 108, 109, 110, 111, 112, 113, 114, 115, 116, 117, 118, 119, 120, 121, 122, 123, 124, 125, 126, 127, 128, 129, 130, 131, 132, 133, 134, 135, 136, 137, 138, 139, 140, 141] (by decide +kernel) (by decide +kernel)
set_option maxRecDepth 20000 in
theorem gX7_kind_X7_bestChange : GoodIn wsX7_kind (wsV RX7 212 RX7 yX7_bestChange wsX7_bestChange) := goodIn_app (goodIn_of _ (by decide +kernel)) ggX7_kind_X7_bestChange
theorem dX7_kind_0 : decode cX7_kind 0 = .ok (.aload_n 0, 1) := by decide +kernel
theorem dX7_kind_1 : decode cX7_kind 1 = .ok (.iload_n 1, 1) := by decide +kernel
theorem dX7_kind_2 : decode cX7_kind 2 = .ok (.invokevirtual 112, 3) := by decide +kernel
theorem dX7_kind_5 : decode cX7_kind 5 = .ok (.ifCond .eq 17, 3) := by decide +kernel
theorem dX7_kind_8 : decode cX7_kind 8 = .ok (.iload_n 2, 1) := by decide +kernel
theorem dX7_kind_9 : decode cX7_kind 9 = .ok (.invokestatic 168, 3) := by decide +kernel
theorem dX7_kind_12 : decode cX7_kind 12 = .ok (.ifCond .eq 10, 3) := by decide +kernel
theorem dX7_kind_15 : decode cX7_kind 15 = .ok (.iload_n 3, 1) := by decide +kernel
theorem dX7_kind_16 : decode cX7_kind 16 = .ok (.invokestatic 199, 3) := by decide +kernel
theorem dX7_kind_19 : decode cX7_kind 19 = .ok (.ifCond .ne 5, 3) := by decide +kernel
theorem dX7_kind_22 : decode cX7_kind 22 = .ok (.iconst (-1), 1) := by decide +kernel
theorem dX7_kind_23 : decode cX7_kind 23 = .ok (.ireturn, 1) := by decide +kernel
theorem dX7_kind_24 : decode cX7_kind 24 = .ok (.aload_n 0, 1) := by decide +kernel
theorem dX7_kind_25 : decode cX7_kind 25 = .ok (.iload_n 1, 1) := by decide +kernel
theorem dX7_kind_26 : decode cX7_kind 26 = .ok (.iconst 0, 1) := by decide +kernel
theorem dX7_kind_27 : decode cX7_kind 27 = .ok (.iconst 3, 1) := by decide +kernel
theorem dX7_kind_28 : decode cX7_kind 28 = .ok (.iload_n 2, 1) := by decide +kernel
theorem dX7_kind_29 : decode cX7_kind 29 = .ok (.iload_n 3, 1) := by decide +kernel
theorem dX7_kind_30 : decode cX7_kind 30 = .ok (.invokevirtual 212, 3) := by decide +kernel
theorem dX7_kind_33 : decode cX7_kind 33 = .ok (.ireturn, 1) := by decide +kernel
set_option maxRecDepth 20000 in
theorem ggX7_fill_X7_isDoor : GoodIn wsX7_fill wsX7_isDoor := goodIn_r _ [8, 1, 9, 116, 117, 118, 119, 120, 121, 122, 123, 124, 125, 126, 127, 128, 129, 130, 131, 132, 133] (by decide +kernel) (by decide +kernel)
set_option maxRecDepth 20000 in
theorem gX7_fill_X7_isDoor : GoodIn wsX7_fill (wsV RX7 112 RX7 yX7_isDoor wsX7_isDoor) := goodIn_app (goodIn_of _ (by decide +kernel)) ggX7_fill_X7_isDoor
set_option maxRecDepth 20000 in
theorem ggX7_fill_X7_isRun : GoodIn wsX7_fill wsX7_isRun := goodIn_r _ [12] (by decide +kernel) (by decide +kernel)
set_option maxRecDepth 20000 in
theorem gX7_fill_X7_isRun : GoodIn wsX7_fill (va_wsS RX7 168 yX7_isRun wsX7_isRun) := goodIn_app (goodIn_of _ (by decide +kernel)) ggX7_fill_X7_isRun
set_option maxRecDepth 20000 in
theorem ggX7_fill_X7_isChoice : GoodIn wsX7_fill wsX7_isChoice := goodIn_r _ [15] (by decide +kernel) (by decide +kernel)
set_option maxRecDepth 20000 in
theorem gX7_fill_X7_isChoice : GoodIn wsX7_fill (va_wsS RX7 199 yX7_isChoice wsX7_isChoice) := goodIn_app (goodIn_of _ (by decide +kernel)) ggX7_fill_X7_isChoice
set_option maxRecDepth 20000 in
theorem ggX7_fill_X7_bestChange : GoodIn wsX7_fill wsX7_bestChange := goodIn_r _ [19, 20, 2, 21, 22, 23, 7, 24, 1, 25, 26, 27, 28, 29, 30, 31, 32, 33, 34, 35, 36, 37, 38, 39, 40, 41, 42, 43, 44, 45, 46, 47, 48, 49, 50, 51, 52, 53, 54, 55, 56, 57, 58, 59, 60, 61, 62, 63, 64, 65, 66, 67, 68, 69, 70, 71, 72, 73, 74, 75, 76, 77, 78, 79, 80, 81, 82, 83, 84, 85, 86, 87, 88, 89, 90, 91, 92, 93, 94, 95, 96, 97, 98, 99, 100, 101, 102, 103, 104, 105, 106, 107, 108, 109, 110, 111, 112, 113, 114, 115, 116, 117, 118, 119, 120, 121, 122, 123, 124, 125, 126, 127, 128, 129, 130, 131, 132, 133, 140, 141, 142, 134, 135, 136, 137, 138, 139] (by decide +kernel) (by decide +kernel)
set_option maxRecDepth 20000 in
theorem gX7_fill_X7_bestChange : GoodIn wsX7_fill (wsV RX7 212 RX7 yX7_bestChange wsX7_bestChange) := goodIn_app (goodIn_of _ (by decide +kernel)) ggX7_fill_X7_bestChange
theorem dX7_fill_0 : decode cX7_fill 0 = .ok (.aload_n 0, 1) := by decide +kernel
theorem dX7_fill_1 : decode cX7_fill 1 = .ok (.iload_n 1, 1) := by decide +kernel
theorem dX7_fill_2 : decode cX7_fill 2 = .ok (.invokevirtual 112, 3) := by decide +kernel
theorem dX7_fill_5 : decode cX7_fill 5 = .ok (.ifCond .eq 17, 3) := by decide +kernel
theorem dX7_fill_8 : decode cX7_fill 8 = .ok (.iload_n 2, 1) := by decide +kernel
theorem dX7_fill_9 : decode cX7_fill 9 = .ok (.invokestatic 168, 3) := by decide +kernel
theorem dX7_fill_12 : decode cX7_fill 12 = .ok (.ifCond .eq 10, 3) := by decide +kernel
theorem dX7_fill_15 : decode cX7_fill 15 = .ok (.iload_n 3, 1) := by decide +kernel
theorem dX7_fill_16 : decode cX7_fill 16 = .ok (.invokestatic 199, 3) := by decide +kernel
theorem dX7_fill_19 : decode cX7_fill 19 = .ok (.ifCond .ne 5, 3) := by decide +kernel
theorem dX7_fill_22 : decode cX7_fill 22 = .ok (.iconst (-1), 1) := by decide +kernel
theorem dX7_fill_23 : decode cX7_fill 23 = .ok (.ireturn, 1) := by decide +kernel
theorem dX7_fill_24 : decode cX7_fill 24 = .ok (.aload_n 0, 1) := by decide +kernel
theorem dX7_fill_25 : decode cX7_fill 25 = .ok (.iload_n 1, 1) := by decide +kernel
theorem dX7_fill_26 : decode cX7_fill 26 = .ok (.iconst 3, 1) := by decide +kernel
theorem dX7_fill_27 : decode cX7_fill 27 = .ok (.aload_n 0, 1) := by decide +kernel
theorem dX7_fill_28 : decode cX7_fill 28 = .ok (.getfield 10, 3) := by decide +kernel
theorem dX7_fill_31 : decode cX7_fill 31 = .ok (.getfield 115, 3) := by decide +kernel
theorem dX7_fill_34 : decode cX7_fill 34 = .ok (.iload_n 1, 1) := by decide +kernel
theorem dX7_fill_35 : decode cX7_fill 35 = .ok (.aaload, 1) := by decide +kernel
theorem dX7_fill_36 : decode cX7_fill 36 = .ok (.getfield 145, 3) := by decide +kernel
theorem dX7_fill_39 : decode cX7_fill 39 = .ok (.iload_n 2, 1) := by decide +kernel
theorem dX7_fill_40 : decode cX7_fill 40 = .ok (.iload_n 3, 1) := by decide +kernel
theorem dX7_fill_41 : decode cX7_fill 41 = .ok (.invokevirtual 212, 3) := by decide +kernel
theorem dX7_fill_44 : decode cX7_fill 44 = .ok (.ireturn, 1) := by decide +kernel
set_option maxRecDepth 20000 in
theorem ggX7_luck_X7_isOdds : GoodIn wsX7_luck wsX7_isOdds := goodIn_r _ [5] (by decide +kernel) (by decide +kernel)
set_option maxRecDepth 20000 in
theorem gX7_luck_X7_isOdds : GoodIn wsX7_luck (va_wsS RX7 216 yX7_isOdds wsX7_isOdds) := goodIn_app (goodIn_of _ (by decide +kernel)) ggX7_luck_X7_isOdds
set_option maxRecDepth 20000 in
theorem ggX7_luck_X7_isChoice : GoodIn wsX7_luck wsX7_isChoice := goodIn_r _ [8] (by decide +kernel) (by decide +kernel)
set_option maxRecDepth 20000 in
theorem gX7_luck_X7_isChoice : GoodIn wsX7_luck (va_wsS RX7 199 yX7_isChoice wsX7_isChoice) := goodIn_app (goodIn_of _ (by decide +kernel)) ggX7_luck_X7_isChoice
set_option maxRecDepth 20000 in
theorem ggX7_luck_X7_weighAll : GoodIn wsX7_luck wsX7_weighAll := goodIn_r _ [12, 13, 14, 15, 16, 17, 18, 19, 20, 21, 22, 23, 24, 4, 25, 26, 27, 28, 29, 30, 31, 32, 33, 34, 35, 36, 37, 38, 39, 40, 41, 42, 43, 44, 45, 46, 47, 48, 49, 50, 51, 52, 53, 54, 55, 56, 57, 58, 59, 60, 61, 62, 63, 64, 65, 66, 67, 68, 69, 70, 71, 72, 73, 74, 75, 76, 77, 78, 79, 80, 81, 82, 83, 84, 85, 86, 87, 88, 89, 90, 91, 92, 93, 94, 95, 96, 97, 98, 99, 100, 101, 102, 103, 104, 105, 106, 107, 108, 109, 110, 111, 112, 113, 123, 124, 125, 126, 127, 128, 129, 130, 131, 132, 133, 134, 135, 136, 137, 138, 139, 140, 141, 142, 143, 144, 145, 146, 147, 148, 149] (by decide +kernel) (by decide +kernel)
set_option maxRecDepth 20000 in
theorem gX7_luck_X7_weighAll : GoodIn wsX7_luck (wsV RX7 221 RX7 yX7_weighAll wsX7_weighAll) := goodIn_app (goodIn_of _ (by decide +kernel)) ggX7_luck_X7_weighAll
set_option maxRecDepth 20000 in
theorem ggX7_luck_X7_power : GoodIn wsX7_luck wsX7_power := goodIn_r _ [25] (by decide +kernel) (by decide +kernel)
set_option maxRecDepth 20000 in
theorem gX7_luck_X7_power : GoodIn wsX7_luck (va_wsS RX7 225 yX7_power wsX7_power) := goodIn_app (goodIn_of _ (by decide +kernel)) ggX7_luck_X7_power
set_option maxRecDepth 20000 in
theorem ggX7_luck_X7_part : GoodIn wsX7_luck wsX7_part := goodIn_r _ [116, 117, 118, 96, 119, 120, 121, 4, 122] (by decide +kernel) (by decide +kernel)
set_option maxRecDepth 20000 in
theorem gX7_luck_X7_part : GoodIn wsX7_luck (va_wsS RX7 229 yX7_part wsX7_part) := goodIn_app (goodIn_of _ (by decide +kernel)) ggX7_luck_X7_part
theorem dX7_luck_0 : decode cX7_luck 0 = .ok (.iload_n 1, 1) := by decide +kernel
theorem dX7_luck_1 : decode cX7_luck 1 = .ok (.iload_n 2, 1) := by decide +kernel
theorem dX7_luck_2 : decode cX7_luck 2 = .ok (.invokestatic 216, 3) := by decide +kernel
theorem dX7_luck_5 : decode cX7_luck 5 = .ok (.ifCond .eq 10, 3) := by decide +kernel
theorem dX7_luck_8 : decode cX7_luck 8 = .ok (.iload_n 3, 1) := by decide +kernel
theorem dX7_luck_9 : decode cX7_luck 9 = .ok (.invokestatic 199, 3) := by decide +kernel
theorem dX7_luck_12 : decode cX7_luck 12 = .ok (.ifCond .ne 7, 3) := by decide +kernel
theorem dX7_luck_15 : decode cX7_luck 15 = .ok (.ldc2_w 219, 3) := by decide +kernel
theorem dX7_luck_18 : decode cX7_luck 18 = .ok (.lreturn, 1) := by decide +kernel
theorem dX7_luck_19 : decode cX7_luck 19 = .ok (.aload_n 0, 1) := by decide +kernel
theorem dX7_luck_20 : decode cX7_luck 20 = .ok (.iload_n 1, 1) := by decide +kernel
theorem dX7_luck_21 : decode cX7_luck 21 = .ok (.iload_n 2, 1) := by decide +kernel
theorem dX7_luck_22 : decode cX7_luck 22 = .ok (.iconst 0, 1) := by decide +kernel
theorem dX7_luck_23 : decode cX7_luck 23 = .ok (.invokevirtual 221, 3) := by decide +kernel
theorem dX7_luck_26 : decode cX7_luck 26 = .ok (.bipush 10, 2) := by decide +kernel
theorem dX7_luck_28 : decode cX7_luck 28 = .ok (.iload_n 2, 1) := by decide +kernel
theorem dX7_luck_29 : decode cX7_luck 29 = .ok (.invokestatic 225, 3) := by decide +kernel
theorem dX7_luck_32 : decode cX7_luck 32 = .ok (.iload_n 3, 1) := by decide +kernel
theorem dX7_luck_33 : decode cX7_luck 33 = .ok (.invokestatic 229, 3) := by decide +kernel
theorem dX7_luck_36 : decode cX7_luck 36 = .ok (.lreturn, 1) := by decide +kernel
set_option maxRecDepth 20000 in
theorem ggX7_mean_X7_isOdds : GoodIn wsX7_mean wsX7_isOdds := goodIn_r _ [5] (by decide +kernel) (by decide +kernel)
set_option maxRecDepth 20000 in
theorem gX7_mean_X7_isOdds : GoodIn wsX7_mean (va_wsS RX7 216 yX7_isOdds wsX7_isOdds) := goodIn_app (goodIn_of _ (by decide +kernel)) ggX7_mean_X7_isOdds
set_option maxRecDepth 20000 in
theorem ggX7_mean_X7_isChoice : GoodIn wsX7_mean wsX7_isChoice := goodIn_r _ [8] (by decide +kernel) (by decide +kernel)
set_option maxRecDepth 20000 in
theorem gX7_mean_X7_isChoice : GoodIn wsX7_mean (va_wsS RX7 199 yX7_isChoice wsX7_isChoice) := goodIn_app (goodIn_of _ (by decide +kernel)) ggX7_mean_X7_isChoice
set_option maxRecDepth 20000 in
theorem ggX7_mean_X7_weighAll : GoodIn wsX7_mean wsX7_weighAll := goodIn_r _ [12, 13, 14, 15, 16, 17, 18, 19, 20, 21, 22, 23, 24, 4, 25, 26, 27, 28, 29, 30, 31, 32, 33, 34, 35, 36, 37, 38, 39, 40, 41, 42, 43, 44, 45, 46, 47, 48, 49, 50, 51, 52, 53, 54, 55, 56, 57, 58, 59, 60, 61, 62, 63, 64, 65, 66, 67, 68, 69, 70, 71, 72, 73, 74, 75, 76, 77, 78, 79, 80, 81, 82, 83, 84, 85, 86, 87, 88, 89, 90, 91, 92, 93, 94, 95, 96, 97, 98, 99, 100, 101, 102, 103, 104, 105, 106, 107, 108, 109, 110, 111, 112, 113, 123, 124, 125, 126, 127, 128, 129, 130, 131, 132, 133, 134, 135, 136, 137, 138, 139, 140, 141, 142, 143, 144, 145, 146, 147, 148, 149] (by decide +kernel) (by decide +kernel)
set_option maxRecDepth 20000 in
theorem gX7_mean_X7_weighAll : GoodIn wsX7_mean (wsV RX7 221 RX7 yX7_weighAll wsX7_weighAll) := goodIn_app (goodIn_of _ (by decide +kernel)) ggX7_mean_X7_weighAll
set_option maxRecDepth 20000 in
theorem ggX7_mean_X7_power : GoodIn wsX7_mean wsX7_power := goodIn_r _ [25] (by decide +kernel) (by decide +kernel)
set_option maxRecDepth 20000 in
theorem gX7_mean_X7_power : GoodIn wsX7_mean (va_wsS RX7 225 yX7_power wsX7_power) := goodIn_app (goodIn_of _ (by decide +kernel)) ggX7_mean_X7_power
set_option maxRecDepth 20000 in
theorem ggX7_mean_X7_part : GoodIn wsX7_mean wsX7_part := goodIn_r _ [116, 117, 118, 96, 119, 120, 121, 4, 122] (by decide +kernel) (by decide +kernel)
set_option maxRecDepth 20000 in
theorem gX7_mean_X7_part : GoodIn wsX7_mean (va_wsS RX7 229 yX7_part wsX7_part) := goodIn_app (goodIn_of _ (by decide +kernel)) ggX7_mean_X7_part
theorem dX7_mean_0 : decode cX7_mean 0 = .ok (.iload_n 1, 1) := by decide +kernel
theorem dX7_mean_1 : decode cX7_mean 1 = .ok (.iload_n 2, 1) := by decide +kernel
theorem dX7_mean_2 : decode cX7_mean 2 = .ok (.invokestatic 216, 3) := by decide +kernel
theorem dX7_mean_5 : decode cX7_mean 5 = .ok (.ifCond .eq 10, 3) := by decide +kernel
theorem dX7_mean_8 : decode cX7_mean 8 = .ok (.iload_n 3, 1) := by decide +kernel
theorem dX7_mean_9 : decode cX7_mean 9 = .ok (.invokestatic 199, 3) := by decide +kernel
theorem dX7_mean_12 : decode cX7_mean 12 = .ok (.ifCond .ne 7, 3) := by decide +kernel
theorem dX7_mean_15 : decode cX7_mean 15 = .ok (.ldc2_w 219, 3) := by decide +kernel
theorem dX7_mean_18 : decode cX7_mean 18 = .ok (.lreturn, 1) := by decide +kernel
theorem dX7_mean_19 : decode cX7_mean 19 = .ok (.aload_n 0, 1) := by decide +kernel
theorem dX7_mean_20 : decode cX7_mean 20 = .ok (.iload_n 1, 1) := by decide +kernel
theorem dX7_mean_21 : decode cX7_mean 21 = .ok (.iload_n 2, 1) := by decide +kernel
theorem dX7_mean_22 : decode cX7_mean 22 = .ok (.iconst 1, 1) := by decide +kernel
theorem dX7_mean_23 : decode cX7_mean 23 = .ok (.invokevirtual 221, 3) := by decide +kernel
theorem dX7_mean_26 : decode cX7_mean 26 = .ok (.bipush 10, 2) := by decide +kernel
theorem dX7_mean_28 : decode cX7_mean 28 = .ok (.iload_n 2, 1) := by decide +kernel
theorem dX7_mean_29 : decode cX7_mean 29 = .ok (.invokestatic 225, 3) := by decide +kernel
theorem dX7_mean_32 : decode cX7_mean 32 = .ok (.iload_n 3, 1) := by decide +kernel
theorem dX7_mean_33 : decode cX7_mean 33 = .ok (.invokestatic 229, 3) := by decide +kernel
theorem dX7_mean_36 : decode cX7_mean 36 = .ok (.lreturn, 1) := by decide +kernel
set_option maxRecDepth 20000 in
theorem ggX7_see_X3_add : GoodIn wsX7_see wsX3_add := goodIn_r _ [7, 8, 9, 10, 22, 23, 24] (by decide +kernel) (by decide +kernel)
set_option maxRecDepth 20000 in
theorem gX7_see_X3_add : GoodIn wsX7_see (wsV RX7 233 RX3 yX3_add wsX3_add) := goodIn_app (goodIn_of _ (by decide +kernel)) ggX7_see_X3_add
theorem dX7_see_0 : decode cX7_see 0 = .ok (.iload_n 1, 1) := by decide +kernel
theorem dX7_see_1 : decode cX7_see 1 = .ok (.ifCond .lt 19, 3) := by decide +kernel
theorem dX7_see_4 : decode cX7_see 4 = .ok (.iload_n 1, 1) := by decide +kernel
theorem dX7_see_5 : decode cX7_see 5 = .ok (.bipush 40, 2) := by decide +kernel
theorem dX7_see_7 : decode cX7_see 7 = .ok (.if_icmp .gt 13, 3) := by decide +kernel
theorem dX7_see_10 : decode cX7_see 10 = .ok (.iload_n 2, 1) := by decide +kernel
theorem dX7_see_11 : decode cX7_see 11 = .ok (.ifCond .lt 9, 3) := by decide +kernel
theorem dX7_see_14 : decode cX7_see 14 = .ok (.iload_n 2, 1) := by decide +kernel
theorem dX7_see_15 : decode cX7_see 15 = .ok (.bipush 72, 2) := by decide +kernel
theorem dX7_see_17 : decode cX7_see 17 = .ok (.if_icmp .le 5, 3) := by decide +kernel
theorem dX7_see_20 : decode cX7_see 20 = .ok (.iconst (-1), 1) := by decide +kernel
theorem dX7_see_21 : decode cX7_see 21 = .ok (.ireturn, 1) := by decide +kernel
theorem dX7_see_22 : decode cX7_see 22 = .ok (.aload_n 0, 1) := by decide +kernel
theorem dX7_see_23 : decode cX7_see 23 = .ok (.getfield 46, 3) := by decide +kernel
theorem dX7_see_26 : decode cX7_see 26 = .ok (.iload_n 1, 1) := by decide +kernel
theorem dX7_see_27 : decode cX7_see 27 = .ok (.iload_n 2, 1) := by decide +kernel
theorem dX7_see_28 : decode cX7_see 28 = .ok (.invokevirtual 233, 3) := by decide +kernel
theorem dX7_see_31 : decode cX7_see 31 = .ok (.ifCond .eq 13, 3) := by decide +kernel
theorem dX7_see_34 : decode cX7_see 34 = .ok (.aload_n 0, 1) := by decide +kernel
theorem dX7_see_35 : decode cX7_see 35 = .ok (.getfield 46, 3) := by decide +kernel
theorem dX7_see_38 : decode cX7_see 38 = .ok (.getfield 88, 3) := by decide +kernel
theorem dX7_see_41 : decode cX7_see 41 = .ok (.goto 5, 3) := by decide +kernel
theorem dX7_see_44 : decode cX7_see 44 = .ok (.bipush (-3), 2) := by decide +kernel
theorem dX7_see_46 : decode cX7_see 46 = .ok (.ireturn, 1) := by decide +kernel
theorem dX7_forget_0 : decode cX7_forget 0 = .ok (.iload_n 1, 1) := by decide +kernel
theorem dX7_forget_1 : decode cX7_forget 1 = .ok (.ifCond .lt 14, 3) := by decide +kernel
theorem dX7_forget_4 : decode cX7_forget 4 = .ok (.iload_n 1, 1) := by decide +kernel
theorem dX7_forget_5 : decode cX7_forget 5 = .ok (.aload_n 0, 1) := by decide +kernel
theorem dX7_forget_6 : decode cX7_forget 6 = .ok (.getfield 46, 3) := by decide +kernel
theorem dX7_forget_9 : decode cX7_forget 9 = .ok (.getfield 88, 3) := by decide +kernel
theorem dX7_forget_12 : decode cX7_forget 12 = .ok (.if_icmp .le 5, 3) := by decide +kernel
theorem dX7_forget_15 : decode cX7_forget 15 = .ok (.iconst (-1), 1) := by decide +kernel
theorem dX7_forget_16 : decode cX7_forget 16 = .ok (.ireturn, 1) := by decide +kernel
theorem dX7_forget_17 : decode cX7_forget 17 = .ok (.aload_n 0, 1) := by decide +kernel
theorem dX7_forget_18 : decode cX7_forget 18 = .ok (.getfield 46, 3) := by decide +kernel
theorem dX7_forget_21 : decode cX7_forget 21 = .ok (.getfield 88, 3) := by decide +kernel
theorem dX7_forget_24 : decode cX7_forget 24 = .ok (.istore_n 2, 1) := by decide +kernel
theorem dX7_forget_25 : decode cX7_forget 25 = .ok (.aload_n 0, 1) := by decide +kernel
theorem dX7_forget_26 : decode cX7_forget 26 = .ok (.getfield 46, 3) := by decide +kernel
theorem dX7_forget_29 : decode cX7_forget 29 = .ok (.iload_n 1, 1) := by decide +kernel
theorem dX7_forget_30 : decode cX7_forget 30 = .ok (.putfield 88, 3) := by decide +kernel
theorem dX7_forget_33 : decode cX7_forget 33 = .ok (.iload_n 2, 1) := by decide +kernel
theorem dX7_forget_34 : decode cX7_forget 34 = .ok (.ireturn, 1) := by decide +kernel
set_option maxRecDepth 20000 in
theorem ggX7_kinds_X7_isDoor : GoodIn wsX7_kinds wsX7_isDoor := goodIn_r _ [5, 6, 7, 125, 126, 127, 128, 129, 130, 131, 132, 133, 134, 135, 136, 137, 138, 139, 140, 141, 142] (by decide +kernel) (by decide +kernel)
set_option maxRecDepth 20000 in
theorem gX7_kinds_X7_isDoor : GoodIn wsX7_kinds (wsV RX7 112 RX7 yX7_isDoor wsX7_isDoor) := goodIn_app (goodIn_of _ (by decide +kernel)) ggX7_kinds_X7_isDoor
set_option maxRecDepth 20000 in
theorem ggX7_kinds_X7_fitting : GoodIn wsX7_kinds wsX7_fitting := goodIn_r _ [11, 12, 13, 14, 15, 16, 17, 4, 18, 19, 20, 21, 22, 23, 24, 25, 6, 26, 27, 28, 29, 30, 31, 32, 33, 34, 35, 36, 37, 38, 39, 40, 41, 42, 43, 44, 45, 46, 47, 48, 49, 50, 51, 52, 53, 54, 55, 56, 57, 58, 59, 60, 61, 62, 63, 64, 65, 66, 67, 68, 69, 70, 71, 72, 73, 74, 75, 76, 77, 78, 79, 80, 81, 82, 83, 84, 85, 86, 87, 88, 89, 90, 91, 92, 93, 94, 95, 96, 97, 98, 99, 100, 101, 102, 103, 104, 105, 106, 107, 108, 109, 110, 111, 112, 113, 114, 115, 116, 117, 118, 119, 120, 121, 122, 123, 124, 125, 126, 127, 128, 129, 130, 131, 132, 133, 134, 135, 136, 137, 138, 139, 140, 141, 142, 143, 144, 145, 146, 147, 148, 149, 150, 151, 152, 153, 154] (by decide +kernel) (by decide +kernel)
set_option maxRecDepth 20000 in
theorem gX7_kinds_X7_fitting : GoodIn wsX7_kinds (wsV RX7 236 RX7 yX7_fitting wsX7_fitting) := goodIn_app (goodIn_of _ (by decide +kernel)) ggX7_kinds_X7_fitting
theorem dX7_kinds_0 : decode cX7_kinds 0 = .ok (.aload_n 0, 1) := by decide +kernel
theorem dX7_kinds_1 : decode cX7_kinds 1 = .ok (.iload_n 1, 1) := by decide +kernel
theorem dX7_kinds_2 : decode cX7_kinds 2 = .ok (.invokevirtual 112, 3) := by decide +kernel
theorem dX7_kinds_5 : decode cX7_kinds 5 = .ok (.ifCond .eq 12, 3) := by decide +kernel
theorem dX7_kinds_8 : decode cX7_kinds 8 = .ok (.aload_n 0, 1) := by decide +kernel
theorem dX7_kinds_9 : decode cX7_kinds 9 = .ok (.iload_n 1, 1) := by decide +kernel
theorem dX7_kinds_10 : decode cX7_kinds 10 = .ok (.iconst 0, 1) := by decide +kernel
theorem dX7_kinds_11 : decode cX7_kinds 11 = .ok (.invokevirtual 236, 3) := by decide +kernel
theorem dX7_kinds_14 : decode cX7_kinds 14 = .ok (.goto 4, 3) := by decide +kernel
theorem dX7_kinds_17 : decode cX7_kinds 17 = .ok (.iconst (-1), 1) := by decide +kernel
theorem dX7_kinds_18 : decode cX7_kinds 18 = .ok (.ireturn, 1) := by decide +kernel
set_option maxRecDepth 20000 in
theorem ggX7_depths_X7_isDoor : GoodIn wsX7_depths wsX7_isDoor := goodIn_r _ [5, 6, 7, 125, 126, 127, 128, 129, 130, 131, 132, 133, 134, 135, 136, 137, 138, 139, 140, 141, 142] (by decide +kernel) (by decide +kernel)
set_option maxRecDepth 20000 in
theorem gX7_depths_X7_isDoor : GoodIn wsX7_depths (wsV RX7 112 RX7 yX7_isDoor wsX7_isDoor) := goodIn_app (goodIn_of _ (by decide +kernel)) ggX7_depths_X7_isDoor
set_option maxRecDepth 20000 in
theorem ggX7_depths_X7_fitting : GoodIn wsX7_depths wsX7_fitting := goodIn_r _ [11, 12, 13, 14, 15, 16, 17, 4, 18, 19, 20, 21, 22, 23, 24, 25, 6, 26, 27, 28, 29, 30, 31, 32, 33, 34, 35, 36, 37, 38, 39, 40, 41, 42, 43, 44, 45, 46, 47, 48, 49, 50, 51, 52, 53, 54, 55, 56, 57, 58, 59, 60, 61, 62, 63, 64, 65, 66, 67, 68, 69, 70, 71, 72, 73, 74, 75, 76, 77, 78, 79, 80, 81, 82, 83, 84, 85, 86, 87, 88, 89, 90, 91, 92, 93, 94, 95, 96, 97, 98, 99, 100, 101, 102, 103, 104, 105, 106, 107, 108, 109, 110, 111, 112, 113, 114, 115, 116, 117, 118, 119, 120, 121, 122, 123, 124, 125, 126, 127, 128, 129, 130, 131, 132, 133, 134, 135, 136, 137, 138, 139, 140, 141, 142, 143, 144, 145, 146, 147, 148, 149, 150, 151, 152, 153, 154] (by decide +kernel) (by decide +kernel)
set_option maxRecDepth 20000 in
theorem gX7_depths_X7_fitting : GoodIn wsX7_depths (wsV RX7 236 RX7 yX7_fitting wsX7_fitting) := goodIn_app (goodIn_of _ (by decide +kernel)) ggX7_depths_X7_fitting
theorem dX7_depths_0 : decode cX7_depths 0 = .ok (.aload_n 0, 1) := by decide +kernel
theorem dX7_depths_1 : decode cX7_depths 1 = .ok (.iload_n 1, 1) := by decide +kernel
theorem dX7_depths_2 : decode cX7_depths 2 = .ok (.invokevirtual 112, 3) := by decide +kernel
theorem dX7_depths_5 : decode cX7_depths 5 = .ok (.ifCond .eq 12, 3) := by decide +kernel
theorem dX7_depths_8 : decode cX7_depths 8 = .ok (.aload_n 0, 1) := by decide +kernel
theorem dX7_depths_9 : decode cX7_depths 9 = .ok (.iload_n 1, 1) := by decide +kernel
theorem dX7_depths_10 : decode cX7_depths 10 = .ok (.iconst 1, 1) := by decide +kernel
theorem dX7_depths_11 : decode cX7_depths 11 = .ok (.invokevirtual 236, 3) := by decide +kernel
theorem dX7_depths_14 : decode cX7_depths 14 = .ok (.goto 4, 3) := by decide +kernel
theorem dX7_depths_17 : decode cX7_depths 17 = .ok (.iconst (-1), 1) := by decide +kernel
theorem dX7_depths_18 : decode cX7_depths 18 = .ok (.ireturn, 1) := by decide +kernel
set_option maxRecDepth 20000 in
theorem ggX7_rates_X7_isDoor : GoodIn wsX7_rates wsX7_isDoor := goodIn_r _ [5, 6, 7, 125, 126, 127, 128, 129, 130, 131, 132, 133, 134, 135, 136, 137, 138, 139, 140, 141, 142] (by decide +kernel) (by decide +kernel)
set_option maxRecDepth 20000 in
theorem gX7_rates_X7_isDoor : GoodIn wsX7_rates (wsV RX7 112 RX7 yX7_isDoor wsX7_isDoor) := goodIn_app (goodIn_of _ (by decide +kernel)) ggX7_rates_X7_isDoor
set_option maxRecDepth 20000 in
theorem ggX7_rates_X7_fitting : GoodIn wsX7_rates wsX7_fitting := goodIn_r _ [11, 12, 13, 14, 15, 16, 17, 4, 18, 19, 20, 21, 22, 23, 24, 25, 6, 26, 27, 28, 29, 30, 31, 32, 33, 34, 35, 36, 37, 38, 39, 40, 41, 42, 43, 44, 45, 46, 47, 48, 49, 50, 51, 52, 53, 54, 55, 56, 57, 58, 59, 60, 61, 62, 63, 64, 65, 66, 67, 68, 69, 70, 71, 72, 73, 74, 75, 76, 77, 78, 79, 80, 81, 82, 83, 84, 85, 86, 87, 88, 89, 90, 91, 92, 93, 94, 95, 96, 97, 98, 99, 100, 101, 102, 103, 104, 105, 106, 107, 108, 109, 110, 111, 112, 113, 114, 115, 116, 117, 118, 119, 120, 121, 122, 123, 124, 125, 126, 127, 128, 129, 130, 131, 132, 133, 134, 135, 136, 137, 138, 139, 140, 141, 142, 143, 144, 145, 146, 147, 148, 149, 150, 151, 152, 153, 154] (by decide +kernel) (by decide +kernel)
set_option maxRecDepth 20000 in
theorem gX7_rates_X7_fitting : GoodIn wsX7_rates (wsV RX7 236 RX7 yX7_fitting wsX7_fitting) := goodIn_app (goodIn_of _ (by decide +kernel)) ggX7_rates_X7_fitting
theorem dX7_rates_0 : decode cX7_rates 0 = .ok (.aload_n 0, 1) := by decide +kernel
theorem dX7_rates_1 : decode cX7_rates 1 = .ok (.iload_n 1, 1) := by decide +kernel
theorem dX7_rates_2 : decode cX7_rates 2 = .ok (.invokevirtual 112, 3) := by decide +kernel
theorem dX7_rates_5 : decode cX7_rates 5 = .ok (.ifCond .eq 12, 3) := by decide +kernel
theorem dX7_rates_8 : decode cX7_rates 8 = .ok (.aload_n 0, 1) := by decide +kernel
theorem dX7_rates_9 : decode cX7_rates 9 = .ok (.iload_n 1, 1) := by decide +kernel
theorem dX7_rates_10 : decode cX7_rates 10 = .ok (.iconst 2, 1) := by decide +kernel
theorem dX7_rates_11 : decode cX7_rates 11 = .ok (.invokevirtual 236, 3) := by decide +kernel
theorem dX7_rates_14 : decode cX7_rates 14 = .ok (.goto 4, 3) := by decide +kernel
theorem dX7_rates_17 : decode cX7_rates 17 = .ok (.iconst (-1), 1) := by decide +kernel
theorem dX7_rates_18 : decode cX7_rates 18 = .ok (.ireturn, 1) := by decide +kernel
set_option maxRecDepth 20000 in
theorem ggX7_ask_X7_isDoor : GoodIn wsX7_ask wsX7_isDoor := goodIn_r _ [8, 9, 10, 145, 146, 147, 148, 149, 150, 151, 152, 153, 154, 155, 156, 157, 158, 159, 160, 161, 162] (by decide +kernel) (by decide +kernel)
set_option maxRecDepth 20000 in
theorem gX7_ask_X7_isDoor : GoodIn wsX7_ask (wsV RX7 112 RX7 yX7_isDoor wsX7_isDoor) := goodIn_app (goodIn_of _ (by decide +kernel)) ggX7_ask_X7_isDoor
set_option maxRecDepth 20000 in
theorem ggX7_ask_X7_isChoice : GoodIn wsX7_ask wsX7_isChoice := goodIn_r _ [13] (by decide +kernel) (by decide +kernel)
set_option maxRecDepth 20000 in
theorem gX7_ask_X7_isChoice : GoodIn wsX7_ask (va_wsS RX7 199 yX7_isChoice wsX7_isChoice) := goodIn_app (goodIn_of _ (by decide +kernel)) ggX7_ask_X7_isChoice
set_option maxRecDepth 20000 in
theorem ggX7_ask_X7_fitting : GoodIn wsX7_ask wsX7_fitting := goodIn_r _ [17, 1, 2, 18, 19, 20, 21, 7, 22, 23, 24, 25, 26, 27, 28, 29, 9, 30, 31, 32, 33, 34, 35, 36, 37, 38, 39, 40, 41, 42, 43, 44, 45, 46, 47, 48, 49, 50, 51, 52, 53, 54, 55, 56, 57, 58, 59, 60, 61, 62, 63, 64, 65, 66, 67, 68, 69, 70, 71, 72, 73, 74, 75, 76, 77, 78, 79, 80, 81, 82, 83, 84, 85, 86, 87, 88, 89, 90, 91, 92, 93, 94, 95, 96, 97, 98, 99, 100, 101, 102, 103, 104, 105, 106, 107, 108, 109, 110, 111, 112, 113, 114, 115, 116, 117, 118, 119, 120, 121, 122, 123, 124, 125, 126, 127, 128, 145, 146, 147, 148, 149, 150, 151, 152, 153, 154, 155, 156, 157, 158, 159, 160, 161, 162, 163, 164, 165, 166, 167, 168, 169, 170, 171, 172, 173, 174] (by decide +kernel) (by decide +kernel)
set_option maxRecDepth 20000 in
theorem gX7_ask_X7_fitting : GoodIn wsX7_ask (wsV RX7 236 RX7 yX7_fitting wsX7_fitting) := goodIn_app (goodIn_of _ (by decide +kernel)) ggX7_ask_X7_fitting
set_option maxRecDepth 20000 in
theorem ggX7_ask_X7_startTrial : GoodIn wsX7_ask wsX7_startTrial := goodIn_r _ [29, 1, 9, 30, 31, 32, 33, 34, 35, 36, 37, 38, 39, 40, 41, 42, 43, 44, 45, 46, 47, 48, 49, 50, 51, 52, 53, 54, 55, 56, 57, 58, 59, 60, 61, 62, 63, 64, 65, 66, 67, 68, 69, 70, 71, 145, 146, 147, 148, 149, 150, 151, 152, 153, 154, 155, 156, 157, 158, 159, 160, 161, 162, 163, 164, 165, 166, 167, 168, 169, 170, 171] (by decide +kernel) (by decide +kernel)
set_option maxRecDepth 20000 in
theorem gX7_ask_X7_startTrial : GoodIn wsX7_ask (wsV RX7 174 RX7 yX7_startTrial wsX7_startTrial) := goodIn_app (goodIn_of _ (by decide +kernel)) ggX7_ask_X7_startTrial
set_option maxRecDepth 20000 in
theorem ggX7_ask_X1_change : GoodIn wsX7_ask wsX1_change := goodIn_r _ [75, 50, 51, 52, 53, 76, 77, 78, 79, 166, 167, 168, 169, 170, 171] (by decide +kernel) (by decide +kernel)
set_option maxRecDepth 20000 in
theorem gX7_ask_X1_change : GoodIn wsX7_ask (wsV RX7 148 RX1 yX1_change wsX1_change) := goodIn_app (goodIn_of _ (by decide +kernel)) ggX7_ask_X1_change
set_option maxRecDepth 20000 in
theorem ggX7_ask_X7_countLetByTick : GoodIn wsX7_ask wsX7_countLetByTick := goodIn_r _ [83, 1, 84, 85, 86, 33, 87, 88, 89, 90, 91, 37, 38, 42, 40, 92, 93, 94, 57, 95, 59, 61, 96, 97, 98, 99, 35, 36, 100, 101, 102, 103, 104, 43, 105, 77, 78, 79, 44, 106, 107, 108, 48, 109, 71, 76, 53, 50, 70, 110, 111, 112, 113, 51, 114, 115, 116, 117, 52, 118, 119, 120, 145, 146, 147, 148, 149, 150, 151, 152, 153, 154, 155, 156, 157, 158, 159, 160, 161, 162, 163, 164, 165, 166, 167, 168, 169, 170, 171] (by decide +kernel) (by decide +kernel)
set_option maxRecDepth 20000 in
theorem gX7_ask_X7_countLetByTick : GoodIn wsX7_ask (wsV RX7 239 RX7 yX7_countLetByTick wsX7_countLetByTick) := goodIn_app (goodIn_of _ (by decide +kernel)) ggX7_ask_X7_countLetByTick
set_option maxRecDepth 20000 in
theorem ggX7_ask_J6_bitCount_0f7a4 : GoodIn wsX7_ask wsJ6_bitCount_0f7a4 := goodIn_r _ [132, 133, 134, 135] (by decide +kernel) (by decide +kernel)
set_option maxRecDepth 20000 in
theorem gX7_ask_J6_bitCount_0f7a4 : GoodIn wsX7_ask (va_wsS RX7 243 yJ6_bitCount_0f7a4 wsJ6_bitCount_0f7a4) := goodIn_app (goodIn_of _ (by decide +kernel)) ggX7_ask_J6_bitCount_0f7a4
set_option maxRecDepth 20000 in
theorem ggX7_ask_X7_leftAtWorst : GoodIn wsX7_ask wsX7_leftAtWorst := goodIn_r _ [139, 3, 140, 119, 78, 120, 141, 142, 143, 7, 144, 145, 146, 147, 148, 149, 150, 151, 152, 153, 154, 155] (by decide +kernel) (by decide +kernel)
set_option maxRecDepth 20000 in
theorem gX7_ask_X7_leftAtWorst : GoodIn wsX7_ask (wsV RX7 248 RX7 yX7_leftAtWorst wsX7_leftAtWorst) := goodIn_app (goodIn_of _ (by decide +kernel)) ggX7_ask_X7_leftAtWorst
theorem dX7_ask_0 : decode cX7_ask 0 = .ok (.aload_n 0, 1) := by decide +kernel
theorem dX7_ask_1 : decode cX7_ask 1 = .ok (.iload_n 1, 1) := by decide +kernel
theorem dX7_ask_2 : decode cX7_ask 2 = .ok (.invokevirtual 112, 3) := by decide +kernel
theorem dX7_ask_5 : decode cX7_ask 5 = .ok (.ifCond .eq 10, 3) := by decide +kernel
theorem dX7_ask_8 : decode cX7_ask 8 = .ok (.iload_n 2, 1) := by decide +kernel
theorem dX7_ask_9 : decode cX7_ask 9 = .ok (.invokestatic 199, 3) := by decide +kernel
theorem dX7_ask_12 : decode cX7_ask 12 = .ok (.ifCond .ne 5, 3) := by decide +kernel
theorem dX7_ask_15 : decode cX7_ask 15 = .ok (.iconst (-1), 1) := by decide +kernel
theorem dX7_ask_16 : decode cX7_ask 16 = .ok (.ireturn, 1) := by decide +kernel
theorem dX7_ask_17 : decode cX7_ask 17 = .ok (.aload_n 0, 1) := by decide +kernel
theorem dX7_ask_18 : decode cX7_ask 18 = .ok (.iload_n 1, 1) := by decide +kernel
theorem dX7_ask_19 : decode cX7_ask 19 = .ok (.iconst 2, 1) := by decide +kernel
theorem dX7_ask_20 : decode cX7_ask 20 = .ok (.invokevirtual 236, 3) := by decide +kernel
theorem dX7_ask_23 : decode cX7_ask 23 = .ok (.istore_n 3, 1) := by decide +kernel
theorem dX7_ask_24 : decode cX7_ask 24 = .ok (.iconst 0, 1) := by decide +kernel
theorem dX7_ask_25 : decode cX7_ask 25 = .ok (.istore 4, 2) := by decide +kernel
theorem dX7_ask_27 : decode cX7_ask 27 = .ok (.iload 4, 2) := by decide +kernel
theorem dX7_ask_29 : decode cX7_ask 29 = .ok (.bipush 9, 2) := by decide +kernel
theorem dX7_ask_31 : decode cX7_ask 31 = .ok (.if_icmp .gt 39, 3) := by decide +kernel
theorem dX7_ask_34 : decode cX7_ask 34 = .ok (.aload_n 0, 1) := by decide +kernel
theorem dX7_ask_35 : decode cX7_ask 35 = .ok (.invokevirtual 174, 3) := by decide +kernel
theorem dX7_ask_38 : decode cX7_ask 38 = .ok (.aload_n 0, 1) := by decide +kernel
theorem dX7_ask_39 : decode cX7_ask 39 = .ok (.getfield 16, 3) := by decide +kernel
theorem dX7_ask_42 : decode cX7_ask 42 = .ok (.getfield 115, 3) := by decide +kernel
theorem dX7_ask_45 : decode cX7_ask 45 = .ok (.iload_n 1, 1) := by decide +kernel
theorem dX7_ask_46 : decode cX7_ask 46 = .ok (.aaload, 1) := by decide +kernel
theorem dX7_ask_47 : decode cX7_ask 47 = .ok (.iconst 2, 1) := by decide +kernel
theorem dX7_ask_48 : decode cX7_ask 48 = .ok (.iload 4, 2) := by decide +kernel
theorem dX7_ask_50 : decode cX7_ask 50 = .ok (.invokevirtual 148, 3) := by decide +kernel
theorem dX7_ask_53 : decode cX7_ask 53 = .ok (.aload_n 0, 1) := by decide +kernel
theorem dX7_ask_54 : decode cX7_ask 54 = .ok (.aload_n 0, 1) := by decide +kernel
theorem dX7_ask_55 : decode cX7_ask 55 = .ok (.getfield 58, 3) := by decide +kernel
theorem dX7_ask_58 : decode cX7_ask 58 = .ok (.iload 4, 2) := by decide +kernel
theorem dX7_ask_60 : decode cX7_ask 60 = .ok (.aaload, 1) := by decide +kernel
theorem dX7_ask_61 : decode cX7_ask 61 = .ok (.invokevirtual 239, 3) := by decide +kernel
theorem dX7_ask_64 : decode cX7_ask 64 = .ok (.iinc 4 1, 3) := by decide +kernel
theorem dX7_ask_67 : decode cX7_ask 67 = .ok (.goto (-40), 3) := by decide +kernel
theorem dX7_ask_70 : decode cX7_ask 70 = .ok (.iload_n 3, 1) := by decide +kernel
theorem dX7_ask_71 : decode cX7_ask 71 = .ok (.invokestatic 243, 3) := by decide +kernel
theorem dX7_ask_74 : decode cX7_ask 74 = .ok (.istore 4, 2) := by decide +kernel
theorem dX7_ask_76 : decode cX7_ask 76 = .ok (.bipush (-4), 2) := by decide +kernel
theorem dX7_ask_78 : decode cX7_ask 78 = .ok (.istore 5, 2) := by decide +kernel
theorem dX7_ask_80 : decode cX7_ask 80 = .ok (.iconst 0, 1) := by decide +kernel
theorem dX7_ask_81 : decode cX7_ask 81 = .ok (.istore 6, 2) := by decide +kernel
theorem dX7_ask_83 : decode cX7_ask 83 = .ok (.iload 6, 2) := by decide +kernel
theorem dX7_ask_85 : decode cX7_ask 85 = .ok (.bipush 40, 2) := by decide +kernel
theorem dX7_ask_87 : decode cX7_ask 87 = .ok (.if_icmp .gt 33, 3) := by decide +kernel
theorem dX7_ask_90 : decode cX7_ask 90 = .ok (.aload_n 0, 1) := by decide +kernel
theorem dX7_ask_91 : decode cX7_ask 91 = .ok (.iload_n 3, 1) := by decide +kernel
theorem dX7_ask_92 : decode cX7_ask 92 = .ok (.iload 6, 2) := by decide +kernel
theorem dX7_ask_94 : decode cX7_ask 94 = .ok (.invokevirtual 248, 3) := by decide +kernel
theorem dX7_ask_97 : decode cX7_ask 97 = .ok (.istore 7, 2) := by decide +kernel
theorem dX7_ask_99 : decode cX7_ask 99 = .ok (.iload 7, 2) := by decide +kernel
theorem dX7_ask_101 : decode cX7_ask 101 = .ok (.iload 4, 2) := by decide +kernel
theorem dX7_ask_103 : decode cX7_ask 103 = .ok (.if_icmp .ge 11, 3) := by decide +kernel
theorem dX7_ask_106 : decode cX7_ask 106 = .ok (.iload 7, 2) := by decide +kernel
theorem dX7_ask_108 : decode cX7_ask 108 = .ok (.istore 4, 2) := by decide +kernel
theorem dX7_ask_110 : decode cX7_ask 110 = .ok (.iload 6, 2) := by decide +kernel
theorem dX7_ask_112 : decode cX7_ask 112 = .ok (.istore 5, 2) := by decide +kernel
theorem dX7_ask_114 : decode cX7_ask 114 = .ok (.iinc 6 1, 3) := by decide +kernel
theorem dX7_ask_117 : decode cX7_ask 117 = .ok (.goto (-34), 3) := by decide +kernel
theorem dX7_ask_120 : decode cX7_ask 120 = .ok (.iload 5, 2) := by decide +kernel
theorem dX7_ask_122 : decode cX7_ask 122 = .ok (.bipush (-4), 2) := by decide +kernel
theorem dX7_ask_124 : decode cX7_ask 124 = .ok (.if_icmp .eq 7, 3) := by decide +kernel
theorem dX7_ask_127 : decode cX7_ask 127 = .ok (.iload_n 2, 1) := by decide +kernel
theorem dX7_ask_128 : decode cX7_ask 128 = .ok (.ifCond .ne 8, 3) := by decide +kernel
theorem dX7_ask_131 : decode cX7_ask 131 = .ok (.iload 5, 2) := by decide +kernel
theorem dX7_ask_133 : decode cX7_ask 133 = .ok (.goto 5, 3) := by decide +kernel
theorem dX7_ask_136 : decode cX7_ask 136 = .ok (.iload 4, 2) := by decide +kernel
theorem dX7_ask_138 : decode cX7_ask 138 = .ok (.ireturn, 1) := by decide +kernel
set_option maxRecDepth 20000 in
theorem ggX7_drift_X7_isRun : GoodIn wsX7_drift wsX7_isRun := goodIn_r _ [10] (by decide +kernel) (by decide +kernel)
set_option maxRecDepth 20000 in
theorem gX7_drift_X7_isRun : GoodIn wsX7_drift (va_wsS RX7 168 yX7_isRun wsX7_isRun) := goodIn_app (goodIn_of _ (by decide +kernel)) ggX7_drift_X7_isRun
set_option maxRecDepth 20000 in
theorem ggX7_drift_X7_isChoice : GoodIn wsX7_drift wsX7_isChoice := goodIn_r _ [13] (by decide +kernel) (by decide +kernel)
set_option maxRecDepth 20000 in
theorem gX7_drift_X7_isChoice : GoodIn wsX7_drift (va_wsS RX7 199 yX7_isChoice wsX7_isChoice) := goodIn_app (goodIn_of _ (by decide +kernel)) ggX7_drift_X7_isChoice
set_option maxRecDepth 20000 in
theorem ggX7_drift_X7_startTrial : GoodIn wsX7_drift wsX7_startTrial := goodIn_r _ [17, 4, 1, 18, 19, 20, 21, 22, 23, 24, 25, 26, 27, 28, 29, 30, 31, 32, 33, 34, 35, 36, 37, 38, 39, 40, 41, 42, 43, 44, 45, 46, 47, 48, 49, 50, 51, 52, 53, 54, 55, 56, 57, 58, 59, 89, 90, 91, 92, 93, 94, 95, 96, 97, 98, 99, 100, 101, 102, 103, 104, 105, 106, 107, 108, 109, 110, 111, 112, 113, 114, 115] (by decide +kernel) (by decide +kernel)
set_option maxRecDepth 20000 in
theorem gX7_drift_X7_startTrial : GoodIn wsX7_drift (wsV RX7 174 RX7 yX7_startTrial wsX7_startTrial) := goodIn_app (goodIn_of _ (by decide +kernel)) ggX7_drift_X7_startTrial
set_option maxRecDepth 20000 in
theorem ggX7_drift_X2_tickWith : GoodIn wsX7_drift wsX2_tickWith := goodIn_r _ [63, 23, 24, 30, 64, 65, 66, 21, 67, 68, 31, 69, 70, 71, 72, 32, 73, 74, 75, 36, 76, 59, 77, 41, 38, 58, 78, 79, 80, 81, 39, 82, 83, 84, 85, 40, 86, 87, 88, 100, 101, 102, 103, 104, 105, 106, 110, 111, 112, 113, 114, 115] (by decide +kernel) (by decide +kernel)
set_option maxRecDepth 20000 in
theorem gX7_drift_X2_tickWith : GoodIn wsX7_drift (wsV RX7 252 RX2 yX2_tickWith wsX2_tickWith) := goodIn_app (goodIn_of _ (by decide +kernel)) ggX7_drift_X2_tickWith
theorem dX7_drift_0 : decode cX7_drift 0 = .ok (.iload_n 2, 1) := by decide +kernel
theorem dX7_drift_1 : decode cX7_drift 1 = .ok (.iconst 1, 1) := by decide +kernel
theorem dX7_drift_2 : decode cX7_drift 2 = .ok (.if_icmp .lt 17, 3) := by decide +kernel
theorem dX7_drift_5 : decode cX7_drift 5 = .ok (.iload_n 2, 1) := by decide +kernel
theorem dX7_drift_6 : decode cX7_drift 6 = .ok (.invokestatic 168, 3) := by decide +kernel
theorem dX7_drift_9 : decode cX7_drift 9 = .ok (.ifCond .eq 10, 3) := by decide +kernel
theorem dX7_drift_12 : decode cX7_drift 12 = .ok (.iload_n 3, 1) := by decide +kernel
theorem dX7_drift_13 : decode cX7_drift 13 = .ok (.invokestatic 199, 3) := by decide +kernel
theorem dX7_drift_16 : decode cX7_drift 16 = .ok (.ifCond .ne 5, 3) := by decide +kernel
theorem dX7_drift_19 : decode cX7_drift 19 = .ok (.iconst (-1), 1) := by decide +kernel
theorem dX7_drift_20 : decode cX7_drift 20 = .ok (.ireturn, 1) := by decide +kernel
theorem dX7_drift_21 : decode cX7_drift 21 = .ok (.aload_n 0, 1) := by decide +kernel
theorem dX7_drift_22 : decode cX7_drift 22 = .ok (.getfield 10, 3) := by decide +kernel
theorem dX7_drift_25 : decode cX7_drift 25 = .ok (.getfield 91, 3) := by decide +kernel
theorem dX7_drift_28 : decode cX7_drift 28 = .ok (.ifCond .ne 6, 3) := by decide +kernel
theorem dX7_drift_31 : decode cX7_drift 31 = .ok (.bipush (-2), 2) := by decide +kernel
theorem dX7_drift_33 : decode cX7_drift 33 = .ok (.ireturn, 1) := by decide +kernel
theorem dX7_drift_34 : decode cX7_drift 34 = .ok (.aload_n 0, 1) := by decide +kernel
theorem dX7_drift_35 : decode cX7_drift 35 = .ok (.invokevirtual 174, 3) := by decide +kernel
theorem dX7_drift_38 : decode cX7_drift 38 = .ok (.iload_n 1, 1) := by decide +kernel
theorem dX7_drift_39 : decode cX7_drift 39 = .ok (.istore 4, 2) := by decide +kernel
theorem dX7_drift_41 : decode cX7_drift 41 = .ok (.iconst 0, 1) := by decide +kernel
theorem dX7_drift_42 : decode cX7_drift 42 = .ok (.istore 5, 2) := by decide +kernel
theorem dX7_drift_44 : decode cX7_drift 44 = .ok (.iload 5, 2) := by decide +kernel
theorem dX7_drift_46 : decode cX7_drift 46 = .ok (.iload_n 2, 1) := by decide +kernel
theorem dX7_drift_47 : decode cX7_drift 47 = .ok (.if_icmp .ge 44, 3) := by decide +kernel
theorem dX7_drift_50 : decode cX7_drift 50 = .ok (.iload 4, 2) := by decide +kernel
theorem dX7_drift_52 : decode cX7_drift 52 = .ok (.ldc 251, 2) := by decide +kernel
theorem dX7_drift_54 : decode cX7_drift 54 = .ok (.imul, 1) := by decide +kernel
theorem dX7_drift_55 : decode cX7_drift 55 = .ok (.sipush 12345, 3) := by decide +kernel
theorem dX7_drift_58 : decode cX7_drift 58 = .ok (.iadd, 1) := by decide +kernel
theorem dX7_drift_59 : decode cX7_drift 59 = .ok (.istore 4, 2) := by decide +kernel
theorem dX7_drift_61 : decode cX7_drift 61 = .ok (.iload 4, 2) := by decide +kernel
theorem dX7_drift_63 : decode cX7_drift 63 = .ok (.bipush 16, 2) := by decide +kernel
theorem dX7_drift_65 : decode cX7_drift 65 = .ok (.iushr, 1) := by decide +kernel
theorem dX7_drift_66 : decode cX7_drift 66 = .ok (.sipush 32767, 3) := by decide +kernel
theorem dX7_drift_69 : decode cX7_drift 69 = .ok (.iand, 1) := by decide +kernel
theorem dX7_drift_70 : decode cX7_drift 70 = .ok (.istore 6, 2) := by decide +kernel
theorem dX7_drift_72 : decode cX7_drift 72 = .ok (.aload_n 0, 1) := by decide +kernel
theorem dX7_drift_73 : decode cX7_drift 73 = .ok (.getfield 16, 3) := by decide +kernel
theorem dX7_drift_76 : decode cX7_drift 76 = .ok (.iload 6, 2) := by decide +kernel
theorem dX7_drift_78 : decode cX7_drift 78 = .ok (.bipush 10, 2) := by decide +kernel
theorem dX7_drift_80 : decode cX7_drift 80 = .ok (.irem, 1) := by decide +kernel
theorem dX7_drift_81 : decode cX7_drift 81 = .ok (.invokevirtual 252, 3) := by decide +kernel
theorem dX7_drift_84 : decode cX7_drift 84 = .ok (.pop, 1) := by decide +kernel
theorem dX7_drift_85 : decode cX7_drift 85 = .ok (.iinc 5 1, 3) := by decide +kernel
theorem dX7_drift_88 : decode cX7_drift 88 = .ok (.goto (-44), 3) := by decide +kernel
theorem dX7_drift_91 : decode cX7_drift 91 = .ok (.iload_n 3, 1) := by decide +kernel
theorem dX7_drift_92 : decode cX7_drift 92 = .ok (.ifCond .ne 13, 3) := by decide +kernel
theorem dX7_drift_95 : decode cX7_drift 95 = .ok (.aload_n 0, 1) := by decide +kernel
theorem dX7_drift_96 : decode cX7_drift 96 = .ok (.getfield 16, 3) := by decide +kernel
theorem dX7_drift_99 : decode cX7_drift 99 = .ok (.getfield 100, 3) := by decide +kernel
theorem dX7_drift_102 : decode cX7_drift 102 = .ok (.goto 10, 3) := by decide +kernel
theorem dX7_drift_105 : decode cX7_drift 105 = .ok (.aload_n 0, 1) := by decide +kernel
theorem dX7_drift_106 : decode cX7_drift 106 = .ok (.getfield 16, 3) := by decide +kernel
theorem dX7_drift_109 : decode cX7_drift 109 = .ok (.getfield 103, 3) := by decide +kernel
theorem dX7_drift_112 : decode cX7_drift 112 = .ok (.ireturn, 1) := by decide +kernel
set_option maxRecDepth 20000 in
theorem ggX7_keep_X2_become : GoodIn wsX7_keep wsX2_become := goodIn_r _ [8, 9, 10, 11, 12, 13, 14, 15, 16, 17, 18, 19, 20, 21, 22, 23, 24, 25, 26, 27, 28, 29, 30, 31, 32, 33, 34, 35, 47, 48, 49, 50, 51, 52, 53, 54, 55, 56, 57, 58, 59, 60, 61, 62] (by decide +kernel) (by decide +kernel)
set_option maxRecDepth 20000 in
theorem gX7_keep_X2_become : GoodIn wsX7_keep (wsV RX7 84 RX2 yX2_become wsX2_become) := goodIn_app (goodIn_of _ (by decide +kernel)) ggX7_keep_X2_become
theorem dX7_keep_0 : decode cX7_keep 0 = .ok (.iload_n 1, 1) := by decide +kernel
theorem dX7_keep_1 : decode cX7_keep 1 = .ok (.ifCond .lt 8, 3) := by decide +kernel
theorem dX7_keep_4 : decode cX7_keep 4 = .ok (.iload_n 1, 1) := by decide +kernel
theorem dX7_keep_5 : decode cX7_keep 5 = .ok (.iconst 2, 1) := by decide +kernel
theorem dX7_keep_6 : decode cX7_keep 6 = .ok (.if_icmp .lt 5, 3) := by decide +kernel
theorem dX7_keep_9 : decode cX7_keep 9 = .ok (.iconst (-1), 1) := by decide +kernel
theorem dX7_keep_10 : decode cX7_keep 10 = .ok (.ireturn, 1) := by decide +kernel
theorem dX7_keep_11 : decode cX7_keep 11 = .ok (.aload_n 0, 1) := by decide +kernel
theorem dX7_keep_12 : decode cX7_keep 12 = .ok (.getfield 23, 3) := by decide +kernel
theorem dX7_keep_15 : decode cX7_keep 15 = .ok (.iload_n 1, 1) := by decide +kernel
theorem dX7_keep_16 : decode cX7_keep 16 = .ok (.baload, 1) := by decide +kernel
theorem dX7_keep_17 : decode cX7_keep 17 = .ok (.ifCond .eq 7, 3) := by decide +kernel
theorem dX7_keep_20 : decode cX7_keep 20 = .ok (.iconst 1, 1) := by decide +kernel
theorem dX7_keep_21 : decode cX7_keep 21 = .ok (.goto 4, 3) := by decide +kernel
theorem dX7_keep_24 : decode cX7_keep 24 = .ok (.iconst 0, 1) := by decide +kernel
theorem dX7_keep_25 : decode cX7_keep 25 = .ok (.istore_n 2, 1) := by decide +kernel
theorem dX7_keep_26 : decode cX7_keep 26 = .ok (.aload_n 0, 1) := by decide +kernel
theorem dX7_keep_27 : decode cX7_keep 27 = .ok (.getfield 19, 3) := by decide +kernel
theorem dX7_keep_30 : decode cX7_keep 30 = .ok (.iload_n 1, 1) := by decide +kernel
theorem dX7_keep_31 : decode cX7_keep 31 = .ok (.aaload, 1) := by decide +kernel
theorem dX7_keep_32 : decode cX7_keep 32 = .ok (.aload_n 0, 1) := by decide +kernel
theorem dX7_keep_33 : decode cX7_keep 33 = .ok (.getfield 10, 3) := by decide +kernel
theorem dX7_keep_36 : decode cX7_keep 36 = .ok (.invokevirtual 84, 3) := by decide +kernel
theorem dX7_keep_39 : decode cX7_keep 39 = .ok (.aload_n 0, 1) := by decide +kernel
theorem dX7_keep_40 : decode cX7_keep 40 = .ok (.getfield 23, 3) := by decide +kernel
theorem dX7_keep_43 : decode cX7_keep 43 = .ok (.iload_n 1, 1) := by decide +kernel
theorem dX7_keep_44 : decode cX7_keep 44 = .ok (.iconst 1, 1) := by decide +kernel
theorem dX7_keep_45 : decode cX7_keep 45 = .ok (.bastore, 1) := by decide +kernel
theorem dX7_keep_46 : decode cX7_keep 46 = .ok (.iload_n 2, 1) := by decide +kernel
theorem dX7_keep_47 : decode cX7_keep 47 = .ok (.ireturn, 1) := by decide +kernel
set_option maxRecDepth 20000 in
theorem ggX7_back_X2_become : GoodIn wsX7_back wsX2_become := goodIn_r _ [9, 10, 11, 12, 13, 14, 15, 16, 17, 18, 19, 20, 21, 22, 23, 24, 25, 26, 27, 28, 29, 30, 31, 32, 33, 34, 35, 36, 48, 49, 50, 51, 52, 53, 54, 55, 56, 57, 58, 59, 60, 61, 62, 63] (by decide +kernel) (by decide +kernel)
set_option maxRecDepth 20000 in
theorem gX7_back_X2_become : GoodIn wsX7_back (wsV RX7 84 RX2 yX2_become wsX2_become) := goodIn_app (goodIn_of _ (by decide +kernel)) ggX7_back_X2_become
theorem dX7_back_0 : decode cX7_back 0 = .ok (.iload_n 1, 1) := by decide +kernel
theorem dX7_back_1 : decode cX7_back 1 = .ok (.ifCond .lt 8, 3) := by decide +kernel
theorem dX7_back_4 : decode cX7_back 4 = .ok (.iload_n 1, 1) := by decide +kernel
theorem dX7_back_5 : decode cX7_back 5 = .ok (.iconst 2, 1) := by decide +kernel
theorem dX7_back_6 : decode cX7_back 6 = .ok (.if_icmp .lt 5, 3) := by decide +kernel
theorem dX7_back_9 : decode cX7_back 9 = .ok (.iconst (-1), 1) := by decide +kernel
theorem dX7_back_10 : decode cX7_back 10 = .ok (.ireturn, 1) := by decide +kernel
theorem dX7_back_11 : decode cX7_back 11 = .ok (.aload_n 0, 1) := by decide +kernel
theorem dX7_back_12 : decode cX7_back 12 = .ok (.getfield 23, 3) := by decide +kernel
theorem dX7_back_15 : decode cX7_back 15 = .ok (.iload_n 1, 1) := by decide +kernel
theorem dX7_back_16 : decode cX7_back 16 = .ok (.baload, 1) := by decide +kernel
theorem dX7_back_17 : decode cX7_back 17 = .ok (.ifCond .ne 6, 3) := by decide +kernel
theorem dX7_back_20 : decode cX7_back 20 = .ok (.bipush (-2), 2) := by decide +kernel
theorem dX7_back_22 : decode cX7_back 22 = .ok (.ireturn, 1) := by decide +kernel
theorem dX7_back_23 : decode cX7_back 23 = .ok (.aload_n 0, 1) := by decide +kernel
theorem dX7_back_24 : decode cX7_back 24 = .ok (.getfield 10, 3) := by decide +kernel
theorem dX7_back_27 : decode cX7_back 27 = .ok (.aload_n 0, 1) := by decide +kernel
theorem dX7_back_28 : decode cX7_back 28 = .ok (.getfield 19, 3) := by decide +kernel
theorem dX7_back_31 : decode cX7_back 31 = .ok (.iload_n 1, 1) := by decide +kernel
theorem dX7_back_32 : decode cX7_back 32 = .ok (.aaload, 1) := by decide +kernel
theorem dX7_back_33 : decode cX7_back 33 = .ok (.invokevirtual 84, 3) := by decide +kernel
theorem dX7_back_36 : decode cX7_back 36 = .ok (.aload_n 0, 1) := by decide +kernel
theorem dX7_back_37 : decode cX7_back 37 = .ok (.getfield 10, 3) := by decide +kernel
theorem dX7_back_40 : decode cX7_back 40 = .ok (.getfield 97, 3) := by decide +kernel
theorem dX7_back_43 : decode cX7_back 43 = .ok (.ireturn, 1) := by decide +kernel
set_option maxRecDepth 20000 in
theorem ggX7_sheet_X7_isSheet : GoodIn wsX7_sheet wsX7_isSheet := goodIn_r _ [5] (by decide +kernel) (by decide +kernel)
set_option maxRecDepth 20000 in
theorem gX7_sheet_X7_isSheet : GoodIn wsX7_sheet (va_wsS RX7 255 yX7_isSheet wsX7_isSheet) := goodIn_app (goodIn_of _ (by decide +kernel)) ggX7_sheet_X7_isSheet
set_option maxRecDepth 20000 in
theorem ggX7_sheet_X7_isLane : GoodIn wsX7_sheet wsX7_isLane := goodIn_r _ [8] (by decide +kernel) (by decide +kernel)
set_option maxRecDepth 20000 in
theorem gX7_sheet_X7_isLane : GoodIn wsX7_sheet (va_wsS RX7 258 yX7_isLane wsX7_isLane) := goodIn_app (goodIn_of _ (by decide +kernel)) ggX7_sheet_X7_isLane
set_option maxRecDepth 20000 in
theorem ggX7_sheet_X4_renew : GoodIn wsX7_sheet wsX4_renew := goodIn_r _ [13, 14, 15, 16, 17, 18, 19, 20, 21, 33, 34, 35, 36] (by decide +kernel) (by decide +kernel)
set_option maxRecDepth 20000 in
theorem gX7_sheet_X4_renew : GoodIn wsX7_sheet (wsV RX7 261 RX4 yX4_renew wsX4_renew) := goodIn_app (goodIn_of _ (by decide +kernel)) ggX7_sheet_X4_renew
theorem dX7_sheet_0 : decode cX7_sheet 0 = .ok (.iload_n 1, 1) := by decide +kernel
theorem dX7_sheet_1 : decode cX7_sheet 1 = .ok (.invokestatic 255, 3) := by decide +kernel
theorem dX7_sheet_4 : decode cX7_sheet 4 = .ok (.ifCond .eq 16, 3) := by decide +kernel
theorem dX7_sheet_7 : decode cX7_sheet 7 = .ok (.iload_n 2, 1) := by decide +kernel
theorem dX7_sheet_8 : decode cX7_sheet 8 = .ok (.invokestatic 258, 3) := by decide +kernel
theorem dX7_sheet_11 : decode cX7_sheet 11 = .ok (.ifCond .eq 9, 3) := by decide +kernel
theorem dX7_sheet_14 : decode cX7_sheet 14 = .ok (.iload_n 3, 1) := by decide +kernel
theorem dX7_sheet_15 : decode cX7_sheet 15 = .ok (.bipush 40, 2) := by decide +kernel
theorem dX7_sheet_17 : decode cX7_sheet 17 = .ok (.if_icmp .le 5, 3) := by decide +kernel
theorem dX7_sheet_20 : decode cX7_sheet 20 = .ok (.iconst (-1), 1) := by decide +kernel
theorem dX7_sheet_21 : decode cX7_sheet 21 = .ok (.ireturn, 1) := by decide +kernel
theorem dX7_sheet_22 : decode cX7_sheet 22 = .ok (.iload_n 3, 1) := by decide +kernel
theorem dX7_sheet_23 : decode cX7_sheet 23 = .ok (.ifCond .ge 6, 3) := by decide +kernel
theorem dX7_sheet_26 : decode cX7_sheet 26 = .ok (.bipush (-14), 2) := by decide +kernel
theorem dX7_sheet_28 : decode cX7_sheet 28 = .ok (.ireturn, 1) := by decide +kernel
theorem dX7_sheet_29 : decode cX7_sheet 29 = .ok (.aload_n 0, 1) := by decide +kernel
theorem dX7_sheet_30 : decode cX7_sheet 30 = .ok (.getfield 52, 3) := by decide +kernel
theorem dX7_sheet_33 : decode cX7_sheet 33 = .ok (.iload_n 1, 1) := by decide +kernel
theorem dX7_sheet_34 : decode cX7_sheet 34 = .ok (.aaload, 1) := by decide +kernel
theorem dX7_sheet_35 : decode cX7_sheet 35 = .ok (.iload_n 2, 1) := by decide +kernel
theorem dX7_sheet_36 : decode cX7_sheet 36 = .ok (.iload_n 3, 1) := by decide +kernel
theorem dX7_sheet_37 : decode cX7_sheet 37 = .ok (.invokevirtual 261, 3) := by decide +kernel
theorem dX7_sheet_40 : decode cX7_sheet 40 = .ok (.iconst 1, 1) := by decide +kernel
theorem dX7_sheet_41 : decode cX7_sheet 41 = .ok (.ireturn, 1) := by decide +kernel
set_option maxRecDepth 20000 in
theorem ggX7_lay_X7_isSheet : GoodIn wsX7_lay wsX7_isSheet := goodIn_r _ [5] (by decide +kernel) (by decide +kernel)
set_option maxRecDepth 20000 in
theorem gX7_lay_X7_isSheet : GoodIn wsX7_lay (va_wsS RX7 255 yX7_isSheet wsX7_isSheet) := goodIn_app (goodIn_of _ (by decide +kernel)) ggX7_lay_X7_isSheet
set_option maxRecDepth 20000 in
theorem ggX7_lay_X4_faultAt : GoodIn wsX7_lay wsX4_faultAt := goodIn_r _ [10, 11, 12, 30, 31, 32, 33] (by decide +kernel) (by decide +kernel)
set_option maxRecDepth 20000 in
theorem gX7_lay_X4_faultAt : GoodIn wsX7_lay (wsV RX7 264 RX4 yX4_faultAt wsX4_faultAt) := goodIn_app (goodIn_of _ (by decide +kernel)) ggX7_lay_X4_faultAt
set_option maxRecDepth 20000 in
theorem ggX7_lay_X4_put : GoodIn wsX7_lay wsX4_put := goodIn_r _ [16, 17, 18, 30, 31, 32, 33] (by decide +kernel) (by decide +kernel)
set_option maxRecDepth 20000 in
theorem gX7_lay_X4_put : GoodIn wsX7_lay (wsV RX7 267 RX4 yX4_put wsX4_put) := goodIn_app (goodIn_of _ (by decide +kernel)) ggX7_lay_X4_put
theorem dX7_lay_0 : decode cX7_lay 0 = .ok (.iload_n 1, 1) := by decide +kernel
theorem dX7_lay_1 : decode cX7_lay 1 = .ok (.invokestatic 255, 3) := by decide +kernel
theorem dX7_lay_4 : decode cX7_lay 4 = .ok (.ifCond .ne 5, 3) := by decide +kernel
theorem dX7_lay_7 : decode cX7_lay 7 = .ok (.iconst (-1), 1) := by decide +kernel
theorem dX7_lay_8 : decode cX7_lay 8 = .ok (.ireturn, 1) := by decide +kernel
theorem dX7_lay_9 : decode cX7_lay 9 = .ok (.aload_n 0, 1) := by decide +kernel
theorem dX7_lay_10 : decode cX7_lay 10 = .ok (.getfield 52, 3) := by decide +kernel
theorem dX7_lay_13 : decode cX7_lay 13 = .ok (.iload_n 1, 1) := by decide +kernel
theorem dX7_lay_14 : decode cX7_lay 14 = .ok (.aaload, 1) := by decide +kernel
theorem dX7_lay_15 : decode cX7_lay 15 = .ok (.iload_n 2, 1) := by decide +kernel
theorem dX7_lay_16 : decode cX7_lay 16 = .ok (.invokevirtual 264, 3) := by decide +kernel
theorem dX7_lay_19 : decode cX7_lay 19 = .ok (.istore 4, 2) := by decide +kernel
theorem dX7_lay_21 : decode cX7_lay 21 = .ok (.iload 4, 2) := by decide +kernel
theorem dX7_lay_23 : decode cX7_lay 23 = .ok (.ifCond .eq 9, 3) := by decide +kernel
theorem dX7_lay_26 : decode cX7_lay 26 = .ok (.bipush (-10), 2) := by decide +kernel
theorem dX7_lay_28 : decode cX7_lay 28 = .ok (.iload 4, 2) := by decide +kernel
theorem dX7_lay_30 : decode cX7_lay 30 = .ok (.isub, 1) := by decide +kernel
theorem dX7_lay_31 : decode cX7_lay 31 = .ok (.ireturn, 1) := by decide +kernel
theorem dX7_lay_32 : decode cX7_lay 32 = .ok (.aload_n 0, 1) := by decide +kernel
theorem dX7_lay_33 : decode cX7_lay 33 = .ok (.getfield 52, 3) := by decide +kernel
theorem dX7_lay_36 : decode cX7_lay 36 = .ok (.iload_n 1, 1) := by decide +kernel
theorem dX7_lay_37 : decode cX7_lay 37 = .ok (.aaload, 1) := by decide +kernel
theorem dX7_lay_38 : decode cX7_lay 38 = .ok (.iload_n 2, 1) := by decide +kernel
theorem dX7_lay_39 : decode cX7_lay 39 = .ok (.iload_n 3, 1) := by decide +kernel
theorem dX7_lay_40 : decode cX7_lay 40 = .ok (.invokevirtual 267, 3) := by decide +kernel
theorem dX7_lay_43 : decode cX7_lay 43 = .ok (.iconst 1, 1) := by decide +kernel
theorem dX7_lay_44 : decode cX7_lay 44 = .ok (.ireturn, 1) := by decide +kernel
set_option maxRecDepth 20000 in
theorem ggX7_read_X7_isSheet : GoodIn wsX7_read wsX7_isSheet := goodIn_r _ [8] (by decide +kernel) (by decide +kernel)
set_option maxRecDepth 20000 in
theorem gX7_read_X7_isSheet : GoodIn wsX7_read (va_wsS RX7 255 yX7_isSheet wsX7_isSheet) := goodIn_app (goodIn_of _ (by decide +kernel)) ggX7_read_X7_isSheet
set_option maxRecDepth 20000 in
theorem ggX7_read_X7_isLane : GoodIn wsX7_read wsX7_isLane := goodIn_r _ [11] (by decide +kernel) (by decide +kernel)
set_option maxRecDepth 20000 in
theorem gX7_read_X7_isLane : GoodIn wsX7_read (va_wsS RX7 258 yX7_isLane wsX7_isLane) := goodIn_app (goodIn_of _ (by decide +kernel)) ggX7_read_X7_isLane
set_option maxRecDepth 20000 in
theorem ggX7_read_X4_faultInThree : GoodIn wsX7_read wsX4_faultInThree := goodIn_r _ [16, 17, 18, 19, 20, 21, 15, 22, 23, 65, 66, 67, 68] (by decide +kernel) (by decide +kernel)
set_option maxRecDepth 20000 in
theorem gX7_read_X4_faultInThree : GoodIn wsX7_read (wsV RX7 270 RX4 yX4_faultInThree wsX4_faultInThree) := goodIn_app (goodIn_of _ (by decide +kernel)) ggX7_read_X4_faultInThree
set_option maxRecDepth 20000 in
theorem ggX7_read_X7_comesFrom : GoodIn wsX7_read wsX7_comesFrom := goodIn_r _ [27, 28, 2, 29, 30, 7, 31, 32, 33, 34, 35, 36, 37, 38, 39, 40, 41, 42, 43, 44, 45, 46, 65, 66, 67, 68, 47, 48, 49, 50, 51, 52, 53, 54, 55, 56, 57, 58, 59, 60, 61, 62, 63, 64, 69, 70, 71] (by decide +kernel) (by decide +kernel)
set_option maxRecDepth 20000 in
theorem gX7_read_X7_comesFrom : GoodIn wsX7_read (wsV RX7 273 RX7 yX7_comesFrom wsX7_comesFrom) := goodIn_app (goodIn_of _ (by decide +kernel)) ggX7_read_X7_comesFrom
theorem dX7_read_0 : decode cX7_read 0 = .ok (.iload_n 1, 1) := by decide +kernel
theorem dX7_read_1 : decode cX7_read 1 = .ok (.invokestatic 255, 3) := by decide +kernel
theorem dX7_read_4 : decode cX7_read 4 = .ok (.ifCond .eq 22, 3) := by decide +kernel
theorem dX7_read_7 : decode cX7_read 7 = .ok (.iload_n 2, 1) := by decide +kernel
theorem dX7_read_8 : decode cX7_read 8 = .ok (.invokestatic 258, 3) := by decide +kernel
theorem dX7_read_11 : decode cX7_read 11 = .ok (.ifCond .eq 15, 3) := by decide +kernel
theorem dX7_read_14 : decode cX7_read 14 = .ok (.iload 4, 2) := by decide +kernel
theorem dX7_read_16 : decode cX7_read 16 = .ok (.ifCond .lt 10, 3) := by decide +kernel
theorem dX7_read_19 : decode cX7_read 19 = .ok (.iload 4, 2) := by decide +kernel
theorem dX7_read_21 : decode cX7_read 21 = .ok (.bipush 13, 2) := by decide +kernel
theorem dX7_read_23 : decode cX7_read 23 = .ok (.if_icmp .le 5, 3) := by decide +kernel
theorem dX7_read_26 : decode cX7_read 26 = .ok (.iconst (-1), 1) := by decide +kernel
theorem dX7_read_27 : decode cX7_read 27 = .ok (.ireturn, 1) := by decide +kernel
theorem dX7_read_28 : decode cX7_read 28 = .ok (.aload_n 0, 1) := by decide +kernel
theorem dX7_read_29 : decode cX7_read 29 = .ok (.getfield 52, 3) := by decide +kernel
theorem dX7_read_32 : decode cX7_read 32 = .ok (.iload_n 1, 1) := by decide +kernel
theorem dX7_read_33 : decode cX7_read 33 = .ok (.aaload, 1) := by decide +kernel
theorem dX7_read_34 : decode cX7_read 34 = .ok (.astore 5, 2) := by decide +kernel
theorem dX7_read_36 : decode cX7_read 36 = .ok (.aload_n 0, 1) := by decide +kernel
theorem dX7_read_37 : decode cX7_read 37 = .ok (.getfield 10, 3) := by decide +kernel
theorem dX7_read_40 : decode cX7_read 40 = .ok (.getfield 94, 3) := by decide +kernel
theorem dX7_read_43 : decode cX7_read 43 = .ok (.istore 6, 2) := by decide +kernel
theorem dX7_read_45 : decode cX7_read 45 = .ok (.iconst 0, 1) := by decide +kernel
theorem dX7_read_46 : decode cX7_read 46 = .ok (.istore 7, 2) := by decide +kernel
theorem dX7_read_48 : decode cX7_read 48 = .ok (.iconst 0, 1) := by decide +kernel
theorem dX7_read_49 : decode cX7_read 49 = .ok (.istore 8, 2) := by decide +kernel
theorem dX7_read_51 : decode cX7_read 51 = .ok (.iload 8, 2) := by decide +kernel
theorem dX7_read_53 : decode cX7_read 53 = .ok (.iload 4, 2) := by decide +kernel
theorem dX7_read_55 : decode cX7_read 55 = .ok (.if_icmp .ge 63, 3) := by decide +kernel
theorem dX7_read_58 : decode cX7_read 58 = .ok (.iload 7, 2) := by decide +kernel
theorem dX7_read_60 : decode cX7_read 60 = .ok (.ifCond .ne 58, 3) := by decide +kernel
theorem dX7_read_63 : decode cX7_read 63 = .ok (.iload_n 3, 1) := by decide +kernel
theorem dX7_read_64 : decode cX7_read 64 = .ok (.iconst 3, 1) := by decide +kernel
theorem dX7_read_65 : decode cX7_read 65 = .ok (.iload 8, 2) := by decide +kernel
theorem dX7_read_67 : decode cX7_read 67 = .ok (.imul, 1) := by decide +kernel
theorem dX7_read_68 : decode cX7_read 68 = .ok (.iadd, 1) := by decide +kernel
theorem dX7_read_69 : decode cX7_read 69 = .ok (.istore 9, 2) := by decide +kernel
theorem dX7_read_71 : decode cX7_read 71 = .ok (.aload 5, 2) := by decide +kernel
theorem dX7_read_73 : decode cX7_read 73 = .ok (.iload_n 2, 1) := by decide +kernel
theorem dX7_read_74 : decode cX7_read 74 = .ok (.iload 9, 2) := by decide +kernel
theorem dX7_read_76 : decode cX7_read 76 = .ok (.invokevirtual 270, 3) := by decide +kernel
theorem dX7_read_79 : decode cX7_read 79 = .ok (.istore 7, 2) := by decide +kernel
theorem dX7_read_81 : decode cX7_read 81 = .ok (.iload 7, 2) := by decide +kernel
theorem dX7_read_83 : decode cX7_read 83 = .ok (.ifCond .ne 29, 3) := by decide +kernel
theorem dX7_read_86 : decode cX7_read 86 = .ok (.aload_n 0, 1) := by decide +kernel
theorem dX7_read_87 : decode cX7_read 87 = .ok (.aload 5, 2) := by decide +kernel
theorem dX7_read_89 : decode cX7_read 89 = .ok (.iload 9, 2) := by decide +kernel
theorem dX7_read_91 : decode cX7_read 91 = .ok (.invokevirtual 273, 3) := by decide +kernel
theorem dX7_read_94 : decode cX7_read 94 = .ok (.ifCond .ne 18, 3) := by decide +kernel
theorem dX7_read_97 : decode cX7_read 97 = .ok (.aload_n 0, 1) := by decide +kernel
theorem dX7_read_98 : decode cX7_read 98 = .ok (.getfield 10, 3) := by decide +kernel
theorem dX7_read_101 : decode cX7_read 101 = .ok (.iload 6, 2) := by decide +kernel
theorem dX7_read_103 : decode cX7_read 103 = .ok (.putfield 94, 3) := by decide +kernel
theorem dX7_read_106 : decode cX7_read 106 = .ok (.bipush (-20), 2) := by decide +kernel
theorem dX7_read_108 : decode cX7_read 108 = .ok (.iload 8, 2) := by decide +kernel
theorem dX7_read_110 : decode cX7_read 110 = .ok (.isub, 1) := by decide +kernel
theorem dX7_read_111 : decode cX7_read 111 = .ok (.ireturn, 1) := by decide +kernel
theorem dX7_read_112 : decode cX7_read 112 = .ok (.iinc 8 1, 3) := by decide +kernel
theorem dX7_read_115 : decode cX7_read 115 = .ok (.goto (-64), 3) := by decide +kernel
theorem dX7_read_118 : decode cX7_read 118 = .ok (.aload_n 0, 1) := by decide +kernel
theorem dX7_read_119 : decode cX7_read 119 = .ok (.iload 7, 2) := by decide +kernel
theorem dX7_read_121 : decode cX7_read 121 = .ok (.putfield 277, 3) := by decide +kernel
theorem dX7_read_124 : decode cX7_read 124 = .ok (.aload_n 0, 1) := by decide +kernel
theorem dX7_read_125 : decode cX7_read 125 = .ok (.getfield 10, 3) := by decide +kernel
theorem dX7_read_128 : decode cX7_read 128 = .ok (.getfield 94, 3) := by decide +kernel
theorem dX7_read_131 : decode cX7_read 131 = .ok (.iload 6, 2) := by decide +kernel
theorem dX7_read_133 : decode cX7_read 133 = .ok (.isub, 1) := by decide +kernel
theorem dX7_read_134 : decode cX7_read 134 = .ok (.ireturn, 1) := by decide +kernel
theorem dX7_torn_0 : decode cX7_torn 0 = .ok (.aload_n 0, 1) := by decide +kernel
theorem dX7_torn_1 : decode cX7_torn 1 = .ok (.getfield 277, 3) := by decide +kernel
theorem dX7_torn_4 : decode cX7_torn 4 = .ok (.ireturn, 1) := by decide +kernel
set_option maxRecDepth 20000 in
theorem ggX7_count_X7_imagesKept : GoodIn wsX7_count wsX7_imagesKept := goodIn_r _ [13, 14, 30, 31, 32, 33, 34, 35, 36, 37, 38, 39, 40] (by decide +kernel) (by decide +kernel)
set_option maxRecDepth 20000 in
theorem gX7_count_X7_imagesKept : GoodIn wsX7_count (wsV RX7 280 RX7 yX7_imagesKept wsX7_imagesKept) := goodIn_app (goodIn_of _ (by decide +kernel)) ggX7_count_X7_imagesKept
set_option maxRecDepth 20000 in
theorem ggX7_count_X2_depthOfAll : GoodIn wsX7_count wsX2_depthOfAll := goodIn_r _ [19, 20, 21, 22, 53, 54, 55, 56, 57, 58, 59, 60, 61, 62, 63, 64, 65] (by decide +kernel) (by decide +kernel)
set_option maxRecDepth 20000 in
theorem gX7_count_X2_depthOfAll : GoodIn wsX7_count (wsV RX7 287 RX2 yX2_depthOfAll wsX2_depthOfAll) := goodIn_app (goodIn_of _ (by decide +kernel)) ggX7_count_X2_depthOfAll
set_option maxRecDepth 20000 in
theorem ggX7_count_X2_manyOfAll : GoodIn wsX7_count wsX2_manyOfAll := goodIn_r _ [26, 27, 28, 29, 53, 54, 55, 56, 57, 58, 59, 66, 67, 68] (by decide +kernel) (by decide +kernel)
set_option maxRecDepth 20000 in
theorem gX7_count_X2_manyOfAll : GoodIn wsX7_count (wsV RX7 290 RX2 yX2_manyOfAll wsX2_manyOfAll) := goodIn_app (goodIn_of _ (by decide +kernel)) ggX7_count_X2_manyOfAll
theorem dX7_count_0 : decode cX7_count 0 = .ok (.iload_n 1, 1) := by decide +kernel
theorem dX7_count_1 : decode cX7_count 1 = .ok (.tableswitch 103 0 5 #[39, 47, 52, 60, 87, 95], 39) := by decide +kernel
theorem dX7_count_40 : decode cX7_count 40 = .ok (.aload_n 0, 1) := by decide +kernel
theorem dX7_count_41 : decode cX7_count 41 = .ok (.getfield 46, 3) := by decide +kernel
theorem dX7_count_44 : decode cX7_count 44 = .ok (.getfield 88, 3) := by decide +kernel
theorem dX7_count_47 : decode cX7_count 47 = .ok (.ireturn, 1) := by decide +kernel
theorem dX7_count_48 : decode cX7_count 48 = .ok (.aload_n 0, 1) := by decide +kernel
theorem dX7_count_49 : decode cX7_count 49 = .ok (.invokevirtual 280, 3) := by decide +kernel
theorem dX7_count_52 : decode cX7_count 52 = .ok (.ireturn, 1) := by decide +kernel
theorem dX7_count_53 : decode cX7_count 53 = .ok (.aload_n 0, 1) := by decide +kernel
theorem dX7_count_54 : decode cX7_count 54 = .ok (.getfield 30, 3) := by decide +kernel
theorem dX7_count_57 : decode cX7_count 57 = .ok (.getfield 70, 3) := by decide +kernel
theorem dX7_count_60 : decode cX7_count 60 = .ok (.ireturn, 1) := by decide +kernel
theorem dX7_count_61 : decode cX7_count 61 = .ok (.aload_n 0, 1) := by decide +kernel
theorem dX7_count_62 : decode cX7_count 62 = .ok (.getfield 52, 3) := by decide +kernel
theorem dX7_count_65 : decode cX7_count 65 = .ok (.iconst 0, 1) := by decide +kernel
theorem dX7_count_66 : decode cX7_count 66 = .ok (.aaload, 1) := by decide +kernel
theorem dX7_count_67 : decode cX7_count 67 = .ok (.getfield 283, 3) := by decide +kernel
theorem dX7_count_70 : decode cX7_count 70 = .ok (.ifCond .eq 15, 3) := by decide +kernel
theorem dX7_count_73 : decode cX7_count 73 = .ok (.aload_n 0, 1) := by decide +kernel
theorem dX7_count_74 : decode cX7_count 74 = .ok (.getfield 52, 3) := by decide +kernel
theorem dX7_count_77 : decode cX7_count 77 = .ok (.iconst 0, 1) := by decide +kernel
theorem dX7_count_78 : decode cX7_count 78 = .ok (.aaload, 1) := by decide +kernel
theorem dX7_count_79 : decode cX7_count 79 = .ok (.getfield 286, 3) := by decide +kernel
theorem dX7_count_82 : decode cX7_count 82 = .ok (.goto 5, 3) := by decide +kernel
theorem dX7_count_85 : decode cX7_count 85 = .ok (.bipush (-4), 2) := by decide +kernel
theorem dX7_count_87 : decode cX7_count 87 = .ok (.ireturn, 1) := by decide +kernel
theorem dX7_count_88 : decode cX7_count 88 = .ok (.aload_n 0, 1) := by decide +kernel
theorem dX7_count_89 : decode cX7_count 89 = .ok (.getfield 10, 3) := by decide +kernel
theorem dX7_count_92 : decode cX7_count 92 = .ok (.invokevirtual 287, 3) := by decide +kernel
theorem dX7_count_95 : decode cX7_count 95 = .ok (.ireturn, 1) := by decide +kernel
theorem dX7_count_96 : decode cX7_count 96 = .ok (.aload_n 0, 1) := by decide +kernel
theorem dX7_count_97 : decode cX7_count 97 = .ok (.getfield 10, 3) := by decide +kernel
theorem dX7_count_100 : decode cX7_count 100 = .ok (.invokevirtual 290, 3) := by decide +kernel
theorem dX7_count_103 : decode cX7_count 103 = .ok (.ireturn, 1) := by decide +kernel
theorem dX7_count_104 : decode cX7_count 104 = .ok (.iconst (-1), 1) := by decide +kernel
theorem dX7_count_105 : decode cX7_count 105 = .ok (.ireturn, 1) := by decide +kernel
theorem dX7_imagesKept_0 : decode cX7_imagesKept 0 = .ok (.iconst 0, 1) := by decide +kernel
theorem dX7_imagesKept_1 : decode cX7_imagesKept 1 = .ok (.istore_n 1, 1) := by decide +kernel
theorem dX7_imagesKept_2 : decode cX7_imagesKept 2 = .ok (.iconst 0, 1) := by decide +kernel
theorem dX7_imagesKept_3 : decode cX7_imagesKept 3 = .ok (.istore_n 2, 1) := by decide +kernel
theorem dX7_imagesKept_4 : decode cX7_imagesKept 4 = .ok (.iload_n 2, 1) := by decide +kernel
theorem dX7_imagesKept_5 : decode cX7_imagesKept 5 = .ok (.iconst 2, 1) := by decide +kernel
theorem dX7_imagesKept_6 : decode cX7_imagesKept 6 = .ok (.if_icmp .ge 26, 3) := by decide +kernel
theorem dX7_imagesKept_9 : decode cX7_imagesKept 9 = .ok (.iload_n 1, 1) := by decide +kernel
theorem dX7_imagesKept_10 : decode cX7_imagesKept 10 = .ok (.aload_n 0, 1) := by decide +kernel
theorem dX7_imagesKept_11 : decode cX7_imagesKept 11 = .ok (.getfield 23, 3) := by decide +kernel
theorem dX7_imagesKept_14 : decode cX7_imagesKept 14 = .ok (.iload_n 2, 1) := by decide +kernel
theorem dX7_imagesKept_15 : decode cX7_imagesKept 15 = .ok (.baload, 1) := by decide +kernel
theorem dX7_imagesKept_16 : decode cX7_imagesKept 16 = .ok (.ifCond .eq 7, 3) := by decide +kernel
theorem dX7_imagesKept_19 : decode cX7_imagesKept 19 = .ok (.iconst 1, 1) := by decide +kernel
theorem dX7_imagesKept_20 : decode cX7_imagesKept 20 = .ok (.goto 4, 3) := by decide +kernel
theorem dX7_imagesKept_23 : decode cX7_imagesKept 23 = .ok (.iconst 0, 1) := by decide +kernel
theorem dX7_imagesKept_24 : decode cX7_imagesKept 24 = .ok (.iadd, 1) := by decide +kernel
theorem dX7_imagesKept_25 : decode cX7_imagesKept 25 = .ok (.istore_n 1, 1) := by decide +kernel
theorem dX7_imagesKept_26 : decode cX7_imagesKept 26 = .ok (.iinc 2 1, 3) := by decide +kernel
theorem dX7_imagesKept_29 : decode cX7_imagesKept 29 = .ok (.goto (-25), 3) := by decide +kernel
theorem dX7_imagesKept_32 : decode cX7_imagesKept 32 = .ok (.iload_n 1, 1) := by decide +kernel
theorem dX7_imagesKept_33 : decode cX7_imagesKept 33 = .ok (.ireturn, 1) := by decide +kernel
theorem dX7_isDoor_0 : decode cX7_isDoor 0 = .ok (.iload_n 1, 1) := by decide +kernel
theorem dX7_isDoor_1 : decode cX7_isDoor 1 = .ok (.ifCond .lt 18, 3) := by decide +kernel
theorem dX7_isDoor_4 : decode cX7_isDoor 4 = .ok (.iload_n 1, 1) := by decide +kernel
theorem dX7_isDoor_5 : decode cX7_isDoor 5 = .ok (.aload_n 0, 1) := by decide +kernel
theorem dX7_isDoor_6 : decode cX7_isDoor 6 = .ok (.getfield 10, 3) := by decide +kernel
theorem dX7_isDoor_9 : decode cX7_isDoor 9 = .ok (.getfield 91, 3) := by decide +kernel
theorem dX7_isDoor_12 : decode cX7_isDoor 12 = .ok (.if_icmp .ge 7, 3) := by decide +kernel
theorem dX7_isDoor_15 : decode cX7_isDoor 15 = .ok (.iconst 1, 1) := by decide +kernel
theorem dX7_isDoor_16 : decode cX7_isDoor 16 = .ok (.goto 4, 3) := by decide +kernel
theorem dX7_isDoor_19 : decode cX7_isDoor 19 = .ok (.iconst 0, 1) := by decide +kernel
theorem dX7_isDoor_20 : decode cX7_isDoor 20 = .ok (.ireturn, 1) := by decide +kernel
theorem dX7_isRun_0 : decode cX7_isRun 0 = .ok (.iload_n 0, 1) := by decide +kernel
theorem dX7_isRun_1 : decode cX7_isRun 1 = .ok (.ifCond .lt 13, 3) := by decide +kernel
theorem dX7_isRun_4 : decode cX7_isRun 4 = .ok (.iload_n 0, 1) := by decide +kernel
theorem dX7_isRun_5 : decode cX7_isRun 5 = .ok (.bipush 100, 2) := by decide +kernel
theorem dX7_isRun_7 : decode cX7_isRun 7 = .ok (.if_icmp .gt 7, 3) := by decide +kernel
theorem dX7_isRun_10 : decode cX7_isRun 10 = .ok (.iconst 1, 1) := by decide +kernel
theorem dX7_isRun_11 : decode cX7_isRun 11 = .ok (.goto 4, 3) := by decide +kernel
theorem dX7_isRun_14 : decode cX7_isRun 14 = .ok (.iconst 0, 1) := by decide +kernel
theorem dX7_isRun_15 : decode cX7_isRun 15 = .ok (.ireturn, 1) := by decide +kernel
theorem dX7_isChoice_0 : decode cX7_isChoice 0 = .ok (.iload_n 0, 1) := by decide +kernel
theorem dX7_isChoice_1 : decode cX7_isChoice 1 = .ok (.ifCond .eq 8, 3) := by decide +kernel
theorem dX7_isChoice_4 : decode cX7_isChoice 4 = .ok (.iload_n 0, 1) := by decide +kernel
theorem dX7_isChoice_5 : decode cX7_isChoice 5 = .ok (.iconst 1, 1) := by decide +kernel
theorem dX7_isChoice_6 : decode cX7_isChoice 6 = .ok (.if_icmp .ne 7, 3) := by decide +kernel
theorem dX7_isChoice_9 : decode cX7_isChoice 9 = .ok (.iconst 1, 1) := by decide +kernel
theorem dX7_isChoice_10 : decode cX7_isChoice 10 = .ok (.goto 4, 3) := by decide +kernel
theorem dX7_isChoice_13 : decode cX7_isChoice 13 = .ok (.iconst 0, 1) := by decide +kernel
theorem dX7_isChoice_14 : decode cX7_isChoice 14 = .ok (.ireturn, 1) := by decide +kernel
theorem dX7_isOdds_0 : decode cX7_isOdds 0 = .ok (.iload_n 0, 1) := by decide +kernel
theorem dX7_isOdds_1 : decode cX7_isOdds 1 = .ok (.ifCond .lt 23, 3) := by decide +kernel
theorem dX7_isOdds_4 : decode cX7_isOdds 4 = .ok (.iload_n 0, 1) := by decide +kernel
theorem dX7_isOdds_5 : decode cX7_isOdds 5 = .ok (.bipush 10, 2) := by decide +kernel
theorem dX7_isOdds_7 : decode cX7_isOdds 7 = .ok (.if_icmp .gt 17, 3) := by decide +kernel
theorem dX7_isOdds_10 : decode cX7_isOdds 10 = .ok (.iload_n 1, 1) := by decide +kernel
theorem dX7_isOdds_11 : decode cX7_isOdds 11 = .ok (.ifCond .lt 13, 3) := by decide +kernel
theorem dX7_isOdds_14 : decode cX7_isOdds 14 = .ok (.iload_n 1, 1) := by decide +kernel
theorem dX7_isOdds_15 : decode cX7_isOdds 15 = .ok (.bipush 8, 2) := by decide +kernel
theorem dX7_isOdds_17 : decode cX7_isOdds 17 = .ok (.if_icmp .gt 7, 3) := by decide +kernel
theorem dX7_isOdds_20 : decode cX7_isOdds 20 = .ok (.iconst 1, 1) := by decide +kernel
theorem dX7_isOdds_21 : decode cX7_isOdds 21 = .ok (.goto 4, 3) := by decide +kernel
theorem dX7_isOdds_24 : decode cX7_isOdds 24 = .ok (.iconst 0, 1) := by decide +kernel
theorem dX7_isOdds_25 : decode cX7_isOdds 25 = .ok (.ireturn, 1) := by decide +kernel
theorem dX7_isSheet_0 : decode cX7_isSheet 0 = .ok (.iload_n 0, 1) := by decide +kernel
theorem dX7_isSheet_1 : decode cX7_isSheet 1 = .ok (.ifCond .lt 12, 3) := by decide +kernel
theorem dX7_isSheet_4 : decode cX7_isSheet 4 = .ok (.iload_n 0, 1) := by decide +kernel
theorem dX7_isSheet_5 : decode cX7_isSheet 5 = .ok (.iconst 4, 1) := by decide +kernel
theorem dX7_isSheet_6 : decode cX7_isSheet 6 = .ok (.if_icmp .ge 7, 3) := by decide +kernel
theorem dX7_isSheet_9 : decode cX7_isSheet 9 = .ok (.iconst 1, 1) := by decide +kernel
theorem dX7_isSheet_10 : decode cX7_isSheet 10 = .ok (.goto 4, 3) := by decide +kernel
theorem dX7_isSheet_13 : decode cX7_isSheet 13 = .ok (.iconst 0, 1) := by decide +kernel
theorem dX7_isSheet_14 : decode cX7_isSheet 14 = .ok (.ireturn, 1) := by decide +kernel
theorem dX7_isLane_0 : decode cX7_isLane 0 = .ok (.iload_n 0, 1) := by decide +kernel
theorem dX7_isLane_1 : decode cX7_isLane 1 = .ok (.ifCond .lt 12, 3) := by decide +kernel
theorem dX7_isLane_4 : decode cX7_isLane 4 = .ok (.iload_n 0, 1) := by decide +kernel
theorem dX7_isLane_5 : decode cX7_isLane 5 = .ok (.iconst 2, 1) := by decide +kernel
theorem dX7_isLane_6 : decode cX7_isLane 6 = .ok (.if_icmp .gt 7, 3) := by decide +kernel
theorem dX7_isLane_9 : decode cX7_isLane 9 = .ok (.iconst 1, 1) := by decide +kernel
theorem dX7_isLane_10 : decode cX7_isLane 10 = .ok (.goto 4, 3) := by decide +kernel
theorem dX7_isLane_13 : decode cX7_isLane 13 = .ok (.iconst 0, 1) := by decide +kernel
theorem dX7_isLane_14 : decode cX7_isLane 14 = .ok (.ireturn, 1) := by decide +kernel
theorem dX7_isCrowd_0 : decode cX7_isCrowd 0 = .ok (.iload_n 0, 1) := by decide +kernel
theorem dX7_isCrowd_1 : decode cX7_isCrowd 1 = .ok (.ifCond .lt 34, 3) := by decide +kernel
theorem dX7_isCrowd_4 : decode cX7_isCrowd 4 = .ok (.iload_n 0, 1) := by decide +kernel
theorem dX7_isCrowd_5 : decode cX7_isCrowd 5 = .ok (.bipush 99, 2) := by decide +kernel
theorem dX7_isCrowd_7 : decode cX7_isCrowd 7 = .ok (.if_icmp .gt 28, 3) := by decide +kernel
theorem dX7_isCrowd_10 : decode cX7_isCrowd 10 = .ok (.iload_n 1, 1) := by decide +kernel
theorem dX7_isCrowd_11 : decode cX7_isCrowd 11 = .ok (.iconst 1, 1) := by decide +kernel
theorem dX7_isCrowd_12 : decode cX7_isCrowd 12 = .ok (.if_icmp .lt 23, 3) := by decide +kernel
theorem dX7_isCrowd_15 : decode cX7_isCrowd 15 = .ok (.iload_n 1, 1) := by decide +kernel
theorem dX7_isCrowd_16 : decode cX7_isCrowd 16 = .ok (.bipush 9, 2) := by decide +kernel
theorem dX7_isCrowd_18 : decode cX7_isCrowd 18 = .ok (.if_icmp .gt 17, 3) := by decide +kernel
theorem dX7_isCrowd_21 : decode cX7_isCrowd 21 = .ok (.iload_n 2, 1) := by decide +kernel
theorem dX7_isCrowd_22 : decode cX7_isCrowd 22 = .ok (.ifCond .lt 13, 3) := by decide +kernel
theorem dX7_isCrowd_25 : decode cX7_isCrowd 25 = .ok (.iload_n 2, 1) := by decide +kernel
theorem dX7_isCrowd_26 : decode cX7_isCrowd 26 = .ok (.bipush 9, 2) := by decide +kernel
theorem dX7_isCrowd_28 : decode cX7_isCrowd 28 = .ok (.if_icmp .gt 7, 3) := by decide +kernel
theorem dX7_isCrowd_31 : decode cX7_isCrowd 31 = .ok (.iconst 1, 1) := by decide +kernel
theorem dX7_isCrowd_32 : decode cX7_isCrowd 32 = .ok (.goto 4, 3) := by decide +kernel
theorem dX7_isCrowd_35 : decode cX7_isCrowd 35 = .ok (.iconst 0, 1) := by decide +kernel
theorem dX7_isCrowd_36 : decode cX7_isCrowd 36 = .ok (.ireturn, 1) := by decide +kernel
set_option maxRecDepth 20000 in
theorem ggX7_mayBecome_X7_lowest : GoodIn wsX7_mayBecome wsX7_lowest := goodIn_r _ [4] (by decide +kernel) (by decide +kernel)
set_option maxRecDepth 20000 in
theorem gX7_mayBecome_X7_lowest : GoodIn wsX7_mayBecome (va_wsS RX7 293 yX7_lowest wsX7_lowest) := goodIn_app (goodIn_of _ (by decide +kernel)) ggX7_mayBecome_X7_lowest
set_option maxRecDepth 20000 in
theorem ggX7_mayBecome_X7_highest : GoodIn wsX7_mayBecome wsX7_highest := goodIn_r _ [7] (by decide +kernel) (by decide +kernel)
set_option maxRecDepth 20000 in
theorem gX7_mayBecome_X7_highest : GoodIn wsX7_mayBecome (va_wsS RX7 296 yX7_highest wsX7_highest) := goodIn_app (goodIn_of _ (by decide +kernel)) ggX7_mayBecome_X7_highest
theorem dX7_mayBecome_0 : decode cX7_mayBecome 0 = .ok (.iload_n 0, 1) := by decide +kernel
theorem dX7_mayBecome_1 : decode cX7_mayBecome 1 = .ok (.ifCond .lt 28, 3) := by decide +kernel
theorem dX7_mayBecome_4 : decode cX7_mayBecome 4 = .ok (.iload_n 0, 1) := by decide +kernel
theorem dX7_mayBecome_5 : decode cX7_mayBecome 5 = .ok (.iconst 3, 1) := by decide +kernel
theorem dX7_mayBecome_6 : decode cX7_mayBecome 6 = .ok (.if_icmp .gt 23, 3) := by decide +kernel
theorem dX7_mayBecome_9 : decode cX7_mayBecome 9 = .ok (.iload_n 1, 1) := by decide +kernel
theorem dX7_mayBecome_10 : decode cX7_mayBecome 10 = .ok (.iload_n 0, 1) := by decide +kernel
theorem dX7_mayBecome_11 : decode cX7_mayBecome 11 = .ok (.invokestatic 293, 3) := by decide +kernel
theorem dX7_mayBecome_14 : decode cX7_mayBecome 14 = .ok (.if_icmp .lt 15, 3) := by decide +kernel
theorem dX7_mayBecome_17 : decode cX7_mayBecome 17 = .ok (.iload_n 1, 1) := by decide +kernel
theorem dX7_mayBecome_18 : decode cX7_mayBecome 18 = .ok (.iload_n 0, 1) := by decide +kernel
theorem dX7_mayBecome_19 : decode cX7_mayBecome 19 = .ok (.invokestatic 296, 3) := by decide +kernel
theorem dX7_mayBecome_22 : decode cX7_mayBecome 22 = .ok (.if_icmp .gt 7, 3) := by decide +kernel
theorem dX7_mayBecome_25 : decode cX7_mayBecome 25 = .ok (.iconst 1, 1) := by decide +kernel
theorem dX7_mayBecome_26 : decode cX7_mayBecome 26 = .ok (.goto 4, 3) := by decide +kernel
theorem dX7_mayBecome_29 : decode cX7_mayBecome 29 = .ok (.iconst 0, 1) := by decide +kernel
theorem dX7_mayBecome_30 : decode cX7_mayBecome 30 = .ok (.ireturn, 1) := by decide +kernel
theorem dX7_lowest_0 : decode cX7_lowest 0 = .ok (.iload_n 0, 1) := by decide +kernel
theorem dX7_lowest_1 : decode cX7_lowest 1 = .ok (.iconst 1, 1) := by decide +kernel
theorem dX7_lowest_2 : decode cX7_lowest 2 = .ok (.if_icmp .ne 7, 3) := by decide +kernel
theorem dX7_lowest_5 : decode cX7_lowest 5 = .ok (.iconst 1, 1) := by decide +kernel
theorem dX7_lowest_6 : decode cX7_lowest 6 = .ok (.goto 4, 3) := by decide +kernel
theorem dX7_lowest_9 : decode cX7_lowest 9 = .ok (.iconst 0, 1) := by decide +kernel
theorem dX7_lowest_10 : decode cX7_lowest 10 = .ok (.ireturn, 1) := by decide +kernel
theorem dX7_highest_0 : decode cX7_highest 0 = .ok (.iload_n 0, 1) := by decide +kernel
theorem dX7_highest_1 : decode cX7_highest 1 = .ok (.ifCond .ne 5, 3) := by decide +kernel
theorem dX7_highest_4 : decode cX7_highest 4 = .ok (.iconst 3, 1) := by decide +kernel
theorem dX7_highest_5 : decode cX7_highest 5 = .ok (.ireturn, 1) := by decide +kernel
theorem dX7_highest_6 : decode cX7_highest 6 = .ok (.iload_n 0, 1) := by decide +kernel
theorem dX7_highest_7 : decode cX7_highest 7 = .ok (.iconst 2, 1) := by decide +kernel
theorem dX7_highest_8 : decode cX7_highest 8 = .ok (.if_icmp .ne 8, 3) := by decide +kernel
theorem dX7_highest_11 : decode cX7_highest 11 = .ok (.bipush 9, 2) := by decide +kernel
theorem dX7_highest_13 : decode cX7_highest 13 = .ok (.goto 5, 3) := by decide +kernel
theorem dX7_highest_16 : decode cX7_highest 16 = .ok (.bipush 9, 2) := by decide +kernel
theorem dX7_highest_18 : decode cX7_highest 18 = .ok (.ireturn, 1) := by decide +kernel
set_option maxRecDepth 20000 in
theorem ggX7_startTrial_X2_become : GoodIn wsX7_startTrial wsX2_become := goodIn_r _ [7, 8, 9, 10, 11, 12, 13, 14, 15, 16, 17, 18, 19, 20, 21, 22, 23, 24, 25, 26, 27, 28, 29, 30, 31, 32, 33, 34, 56, 57, 58, 59, 60, 61, 62, 63, 64, 65, 66, 67, 68, 69, 70, 71] (by decide +kernel) (by decide +kernel)
set_option maxRecDepth 20000 in
theorem gX7_startTrial_X2_become : GoodIn wsX7_startTrial (wsV RX7 84 RX2 yX2_become wsX2_become) := goodIn_app (goodIn_of _ (by decide +kernel)) ggX7_startTrial_X2_become
set_option maxRecDepth 20000 in
theorem ggX7_startTrial_X2_countAnew : GoodIn wsX7_startTrial wsX2_countAnew := goodIn_r _ [38, 16, 17, 8, 9, 39, 40, 41, 21, 42, 43, 44, 56, 57, 58, 59, 60, 61, 62, 66, 67, 68, 69, 70, 71] (by decide +kernel) (by decide +kernel)
set_option maxRecDepth 20000 in
theorem gX7_startTrial_X2_countAnew : GoodIn wsX7_startTrial (wsV RX7 299 RX2 yX2_countAnew wsX2_countAnew) := goodIn_app (goodIn_of _ (by decide +kernel)) ggX7_startTrial_X2_countAnew
theorem dX7_startTrial_0 : decode cX7_startTrial 0 = .ok (.aload_n 0, 1) := by decide +kernel
theorem dX7_startTrial_1 : decode cX7_startTrial 1 = .ok (.getfield 16, 3) := by decide +kernel
theorem dX7_startTrial_4 : decode cX7_startTrial 4 = .ok (.aload_n 0, 1) := by decide +kernel
theorem dX7_startTrial_5 : decode cX7_startTrial 5 = .ok (.getfield 10, 3) := by decide +kernel
theorem dX7_startTrial_8 : decode cX7_startTrial 8 = .ok (.invokevirtual 84, 3) := by decide +kernel
theorem dX7_startTrial_11 : decode cX7_startTrial 11 = .ok (.aload_n 0, 1) := by decide +kernel
theorem dX7_startTrial_12 : decode cX7_startTrial 12 = .ok (.getfield 16, 3) := by decide +kernel
theorem dX7_startTrial_15 : decode cX7_startTrial 15 = .ok (.invokevirtual 299, 3) := by decide +kernel
theorem dX7_startTrial_18 : decode cX7_startTrial 18 = .ok (.return_, 1) := by decide +kernel
set_option maxRecDepth 20000 in
theorem ggX7_letAsItIs_X7_startTrial : GoodIn wsX7_letAsItIs wsX7_startTrial := goodIn_r _ [6, 1, 7, 8, 9, 10, 11, 12, 13, 14, 15, 16, 17, 18, 19, 20, 21, 22, 23, 24, 25, 26, 27, 28, 29, 30, 31, 32, 33, 34, 35, 36, 37, 38, 39, 40, 41, 42, 43, 44, 45, 46, 47, 48, 49, 95, 96, 97, 98, 99, 100, 101, 102, 103, 104, 105, 106, 107, 108, 109, 110, 111, 112, 113, 114, 115, 116, 117, 118, 119, 120, 121] (by decide +kernel) (by decide +kernel)
set_option maxRecDepth 20000 in
theorem gX7_letAsItIs_X7_startTrial : GoodIn wsX7_letAsItIs (wsV RX7 174 RX7 yX7_startTrial wsX7_startTrial) := goodIn_app (goodIn_of _ (by decide +kernel)) ggX7_letAsItIs_X7_startTrial
set_option maxRecDepth 20000 in
theorem ggX7_letAsItIs_X2_runOn : GoodIn wsX7_letAsItIs wsX2_runOn := goodIn_r _ [53, 54, 55, 56, 11, 57, 58, 59, 60, 61, 15, 16, 20, 18, 62, 63, 64, 35, 65, 37, 39, 66, 67, 68, 69, 13, 14, 70, 71, 72, 73, 74, 21, 75, 76, 77, 78, 22, 79, 80, 81, 26, 82, 49, 83, 31, 28, 48, 84, 85, 86, 87, 29, 88, 89, 90, 91, 30, 92, 93, 94, 106, 107, 108, 109, 110, 111, 112, 113, 114, 115, 116, 117, 118, 119, 120, 121] (by decide +kernel) (by decide +kernel)
set_option maxRecDepth 20000 in
theorem gX7_letAsItIs_X2_runOn : GoodIn wsX7_letAsItIs (wsV RX7 171 RX2 yX2_runOn wsX2_runOn) := goodIn_app (goodIn_of _ (by decide +kernel)) ggX7_letAsItIs_X2_runOn
theorem dX7_letAsItIs_0 : decode cX7_letAsItIs 0 = .ok (.aload_n 0, 1) := by decide +kernel
theorem dX7_letAsItIs_1 : decode cX7_letAsItIs 1 = .ok (.invokevirtual 174, 3) := by decide +kernel
theorem dX7_letAsItIs_4 : decode cX7_letAsItIs 4 = .ok (.aload_n 0, 1) := by decide +kernel
theorem dX7_letAsItIs_5 : decode cX7_letAsItIs 5 = .ok (.getfield 16, 3) := by decide +kernel
theorem dX7_letAsItIs_8 : decode cX7_letAsItIs 8 = .ok (.iload_n 1, 1) := by decide +kernel
theorem dX7_letAsItIs_9 : decode cX7_letAsItIs 9 = .ok (.invokevirtual 171, 3) := by decide +kernel
theorem dX7_letAsItIs_12 : decode cX7_letAsItIs 12 = .ok (.ireturn, 1) := by decide +kernel
set_option maxRecDepth 20000 in
theorem ggX7_leastUnrefusing_X7_lowest : GoodIn wsX7_leastUnrefusing wsX7_lowest := goodIn_r _ [7] (by decide +kernel) (by decide +kernel)
set_option maxRecDepth 20000 in
theorem gX7_leastUnrefusing_X7_lowest : GoodIn wsX7_leastUnrefusing (va_wsS RX7 293 yX7_lowest wsX7_lowest) := goodIn_app (goodIn_of _ (by decide +kernel)) ggX7_leastUnrefusing_X7_lowest
set_option maxRecDepth 20000 in
theorem ggX7_leastUnrefusing_X7_highest : GoodIn wsX7_leastUnrefusing wsX7_highest := goodIn_r _ [10] (by decide +kernel) (by decide +kernel)
set_option maxRecDepth 20000 in
theorem gX7_leastUnrefusing_X7_highest : GoodIn wsX7_leastUnrefusing (va_wsS RX7 296 yX7_highest wsX7_highest) := goodIn_app (goodIn_of _ (by decide +kernel)) ggX7_leastUnrefusing_X7_highest
set_option maxRecDepth 20000 in
theorem ggX7_leastUnrefusing_X7_startTrial : GoodIn wsX7_leastUnrefusing wsX7_startTrial := goodIn_r _ [14, 1, 15, 16, 17, 18, 19, 20, 21, 22, 23, 24, 25, 26, 27, 28, 29, 30, 31, 32, 33, 34, 35, 36, 37, 38, 39, 40, 41, 42, 43, 44, 45, 46, 47, 48, 49, 50, 51, 52, 53, 54, 55, 56, 57, 107, 108, 109, 110, 111, 112, 113, 114, 115, 116, 117, 118, 119, 120, 121, 122, 123, 124, 131, 132, 133, 125, 126, 127, 128, 129, 130] (by decide +kernel) (by decide +kernel)
set_option maxRecDepth 20000 in
theorem gX7_leastUnrefusing_X7_startTrial : GoodIn wsX7_leastUnrefusing (wsV RX7 174 RX7 yX7_startTrial wsX7_startTrial) := goodIn_app (goodIn_of _ (by decide +kernel)) ggX7_leastUnrefusing_X7_startTrial
set_option maxRecDepth 20000 in
theorem ggX7_leastUnrefusing_X1_change : GoodIn wsX7_leastUnrefusing wsX1_change := goodIn_r _ [61, 36, 37, 38, 39, 62, 63, 64, 65, 125, 126, 127, 128, 129, 130] (by decide +kernel) (by decide +kernel)
set_option maxRecDepth 20000 in
theorem gX7_leastUnrefusing_X1_change : GoodIn wsX7_leastUnrefusing (wsV RX7 148 RX1 yX1_change wsX1_change) := goodIn_app (goodIn_of _ (by decide +kernel)) ggX7_leastUnrefusing_X1_change
set_option maxRecDepth 20000 in
theorem ggX7_leastUnrefusing_X2_runOn : GoodIn wsX7_leastUnrefusing wsX2_runOn := goodIn_r _ [69, 70, 71, 72, 19, 73, 74, 75, 76, 77, 23, 24, 28, 26, 78, 79, 80, 43, 81, 45, 47, 82, 83, 84, 85, 21, 22, 86, 87, 88, 89, 90, 29, 91, 63, 64, 65, 30, 92, 93, 94, 34, 95, 57, 62, 39, 36, 56, 96, 97, 98, 99, 37, 100, 101, 102, 103, 38, 104, 105, 106, 118, 119, 120, 121, 122, 123, 124, 131, 132, 133, 125, 126, 127, 128, 129, 130] (by decide +kernel) (by decide +kernel)
set_option maxRecDepth 20000 in
theorem gX7_leastUnrefusing_X2_runOn : GoodIn wsX7_leastUnrefusing (wsV RX7 171 RX2 yX2_runOn wsX2_runOn) := goodIn_app (goodIn_of _ (by decide +kernel)) ggX7_leastUnrefusing_X2_runOn
theorem dX7_leastUnrefusing_0 : decode cX7_leastUnrefusing 0 = .ok (.iload_n 2, 1) := by decide +kernel
theorem dX7_leastUnrefusing_1 : decode cX7_leastUnrefusing 1 = .ok (.invokestatic 293, 3) := by decide +kernel
theorem dX7_leastUnrefusing_4 : decode cX7_leastUnrefusing 4 = .ok (.istore 4, 2) := by decide +kernel
theorem dX7_leastUnrefusing_6 : decode cX7_leastUnrefusing 6 = .ok (.iload 4, 2) := by decide +kernel
theorem dX7_leastUnrefusing_8 : decode cX7_leastUnrefusing 8 = .ok (.iload_n 2, 1) := by decide +kernel
theorem dX7_leastUnrefusing_9 : decode cX7_leastUnrefusing 9 = .ok (.invokestatic 296, 3) := by decide +kernel
theorem dX7_leastUnrefusing_12 : decode cX7_leastUnrefusing 12 = .ok (.if_icmp .gt 55, 3) := by decide +kernel
theorem dX7_leastUnrefusing_15 : decode cX7_leastUnrefusing 15 = .ok (.aload_n 0, 1) := by decide +kernel
theorem dX7_leastUnrefusing_16 : decode cX7_leastUnrefusing 16 = .ok (.invokevirtual 174, 3) := by decide +kernel
theorem dX7_leastUnrefusing_19 : decode cX7_leastUnrefusing 19 = .ok (.aload_n 0, 1) := by decide +kernel
theorem dX7_leastUnrefusing_20 : decode cX7_leastUnrefusing 20 = .ok (.getfield 16, 3) := by decide +kernel
theorem dX7_leastUnrefusing_23 : decode cX7_leastUnrefusing 23 = .ok (.getfield 115, 3) := by decide +kernel
theorem dX7_leastUnrefusing_26 : decode cX7_leastUnrefusing 26 = .ok (.iload_n 1, 1) := by decide +kernel
theorem dX7_leastUnrefusing_27 : decode cX7_leastUnrefusing 27 = .ok (.aaload, 1) := by decide +kernel
theorem dX7_leastUnrefusing_28 : decode cX7_leastUnrefusing 28 = .ok (.iload_n 2, 1) := by decide +kernel
theorem dX7_leastUnrefusing_29 : decode cX7_leastUnrefusing 29 = .ok (.iload 4, 2) := by decide +kernel
theorem dX7_leastUnrefusing_31 : decode cX7_leastUnrefusing 31 = .ok (.invokevirtual 148, 3) := by decide +kernel
theorem dX7_leastUnrefusing_34 : decode cX7_leastUnrefusing 34 = .ok (.aload_n 0, 1) := by decide +kernel
theorem dX7_leastUnrefusing_35 : decode cX7_leastUnrefusing 35 = .ok (.getfield 16, 3) := by decide +kernel
theorem dX7_leastUnrefusing_38 : decode cX7_leastUnrefusing 38 = .ok (.iload_n 3, 1) := by decide +kernel
theorem dX7_leastUnrefusing_39 : decode cX7_leastUnrefusing 39 = .ok (.invokevirtual 171, 3) := by decide +kernel
theorem dX7_leastUnrefusing_42 : decode cX7_leastUnrefusing 42 = .ok (.pop, 1) := by decide +kernel
theorem dX7_leastUnrefusing_43 : decode cX7_leastUnrefusing 43 = .ok (.aload_n 0, 1) := by decide +kernel
theorem dX7_leastUnrefusing_44 : decode cX7_leastUnrefusing 44 = .ok (.getfield 16, 3) := by decide +kernel
theorem dX7_leastUnrefusing_47 : decode cX7_leastUnrefusing 47 = .ok (.getfield 115, 3) := by decide +kernel
theorem dX7_leastUnrefusing_50 : decode cX7_leastUnrefusing 50 = .ok (.iload_n 1, 1) := by decide +kernel
theorem dX7_leastUnrefusing_51 : decode cX7_leastUnrefusing 51 = .ok (.aaload, 1) := by decide +kernel
theorem dX7_leastUnrefusing_52 : decode cX7_leastUnrefusing 52 = .ok (.getfield 192, 3) := by decide +kernel
theorem dX7_leastUnrefusing_55 : decode cX7_leastUnrefusing 55 = .ok (.ifCond .ne 6, 3) := by decide +kernel
theorem dX7_leastUnrefusing_58 : decode cX7_leastUnrefusing 58 = .ok (.iload 4, 2) := by decide +kernel
theorem dX7_leastUnrefusing_60 : decode cX7_leastUnrefusing 60 = .ok (.ireturn, 1) := by decide +kernel
theorem dX7_leastUnrefusing_61 : decode cX7_leastUnrefusing 61 = .ok (.iinc 4 1, 3) := by decide +kernel
theorem dX7_leastUnrefusing_64 : decode cX7_leastUnrefusing 64 = .ok (.goto (-58), 3) := by decide +kernel
theorem dX7_leastUnrefusing_67 : decode cX7_leastUnrefusing 67 = .ok (.bipush (-4), 2) := by decide +kernel
theorem dX7_leastUnrefusing_69 : decode cX7_leastUnrefusing 69 = .ok (.ireturn, 1) := by decide +kernel
set_option maxRecDepth 20000 in
theorem ggX7_bestChange_X7_startTrial : GoodIn wsX7_bestChange wsX7_startTrial := goodIn_r _ [7, 1, 8, 9, 10, 11, 12, 13, 14, 15, 16, 17, 18, 19, 20, 21, 22, 23, 24, 25, 26, 27, 28, 29, 30, 31, 32, 33, 34, 35, 36, 37, 38, 39, 40, 41, 42, 43, 44, 45, 46, 47, 48, 49, 50, 100, 101, 102, 103, 104, 105, 106, 107, 108, 109, 110, 111, 112, 113, 114, 115, 116, 117, 118, 119, 120, 121, 122, 123, 124, 125, 126] (by decide +kernel) (by decide +kernel)
set_option maxRecDepth 20000 in
theorem gX7_bestChange_X7_startTrial : GoodIn wsX7_bestChange (wsV RX7 174 RX7 yX7_startTrial wsX7_startTrial) := goodIn_app (goodIn_of _ (by decide +kernel)) ggX7_bestChange_X7_startTrial
set_option maxRecDepth 20000 in
theorem ggX7_bestChange_X1_change : GoodIn wsX7_bestChange wsX1_change := goodIn_r _ [54, 29, 30, 31, 32, 55, 56, 57, 58, 121, 122, 123, 124, 125, 126] (by decide +kernel) (by decide +kernel)
set_option maxRecDepth 20000 in
theorem gX7_bestChange_X1_change : GoodIn wsX7_bestChange (wsV RX7 148 RX1 yX1_change wsX1_change) := goodIn_app (goodIn_of _ (by decide +kernel)) ggX7_bestChange_X1_change
set_option maxRecDepth 20000 in
theorem ggX7_bestChange_X2_runOn : GoodIn wsX7_bestChange wsX2_runOn := goodIn_r _ [62, 63, 64, 65, 12, 66, 67, 68, 69, 70, 16, 17, 21, 19, 71, 72, 73, 36, 74, 38, 40, 75, 76, 77, 78, 14, 15, 79, 80, 81, 82, 83, 22, 84, 56, 57, 58, 23, 85, 86, 87, 27, 88, 50, 55, 32, 29, 49, 89, 90, 91, 92, 30, 93, 94, 95, 96, 31, 97, 98, 99, 111, 112, 113, 114, 115, 116, 117, 118, 119, 120, 121, 122, 123, 124, 125, 126] (by decide +kernel) (by decide +kernel)
set_option maxRecDepth 20000 in
theorem gX7_bestChange_X2_runOn : GoodIn wsX7_bestChange (wsV RX7 171 RX2 yX2_runOn wsX2_runOn) := goodIn_app (goodIn_of _ (by decide +kernel)) ggX7_bestChange_X2_runOn
theorem dX7_bestChange_0 : decode cX7_bestChange 0 = .ok (.iconst (-1), 1) := by decide +kernel
theorem dX7_bestChange_1 : decode cX7_bestChange 1 = .ok (.istore 6, 2) := by decide +kernel
theorem dX7_bestChange_3 : decode cX7_bestChange 3 = .ok (.iconst 0, 1) := by decide +kernel
theorem dX7_bestChange_4 : decode cX7_bestChange 4 = .ok (.istore 7, 2) := by decide +kernel
theorem dX7_bestChange_6 : decode cX7_bestChange 6 = .ok (.iconst 0, 1) := by decide +kernel
theorem dX7_bestChange_7 : decode cX7_bestChange 7 = .ok (.istore 8, 2) := by decide +kernel
theorem dX7_bestChange_9 : decode cX7_bestChange 9 = .ok (.iload 8, 2) := by decide +kernel
theorem dX7_bestChange_11 : decode cX7_bestChange 11 = .ok (.iload_n 3, 1) := by decide +kernel
theorem dX7_bestChange_12 : decode cX7_bestChange 12 = .ok (.if_icmp .gt 54, 3) := by decide +kernel
theorem dX7_bestChange_15 : decode cX7_bestChange 15 = .ok (.aload_n 0, 1) := by decide +kernel
theorem dX7_bestChange_16 : decode cX7_bestChange 16 = .ok (.invokevirtual 174, 3) := by decide +kernel
theorem dX7_bestChange_19 : decode cX7_bestChange 19 = .ok (.aload_n 0, 1) := by decide +kernel
theorem dX7_bestChange_20 : decode cX7_bestChange 20 = .ok (.getfield 16, 3) := by decide +kernel
theorem dX7_bestChange_23 : decode cX7_bestChange 23 = .ok (.getfield 115, 3) := by decide +kernel
theorem dX7_bestChange_26 : decode cX7_bestChange 26 = .ok (.iload_n 1, 1) := by decide +kernel
theorem dX7_bestChange_27 : decode cX7_bestChange 27 = .ok (.aaload, 1) := by decide +kernel
theorem dX7_bestChange_28 : decode cX7_bestChange 28 = .ok (.iload_n 2, 1) := by decide +kernel
theorem dX7_bestChange_29 : decode cX7_bestChange 29 = .ok (.iload 8, 2) := by decide +kernel
theorem dX7_bestChange_31 : decode cX7_bestChange 31 = .ok (.invokevirtual 148, 3) := by decide +kernel
theorem dX7_bestChange_34 : decode cX7_bestChange 34 = .ok (.aload_n 0, 1) := by decide +kernel
theorem dX7_bestChange_35 : decode cX7_bestChange 35 = .ok (.getfield 16, 3) := by decide +kernel
theorem dX7_bestChange_38 : decode cX7_bestChange 38 = .ok (.iload 4, 2) := by decide +kernel
theorem dX7_bestChange_40 : decode cX7_bestChange 40 = .ok (.invokevirtual 171, 3) := by decide +kernel
theorem dX7_bestChange_43 : decode cX7_bestChange 43 = .ok (.istore 9, 2) := by decide +kernel
theorem dX7_bestChange_45 : decode cX7_bestChange 45 = .ok (.iload 9, 2) := by decide +kernel
theorem dX7_bestChange_47 : decode cX7_bestChange 47 = .ok (.iload 6, 2) := by decide +kernel
theorem dX7_bestChange_49 : decode cX7_bestChange 49 = .ok (.if_icmp .le 11, 3) := by decide +kernel
theorem dX7_bestChange_52 : decode cX7_bestChange 52 = .ok (.iload 9, 2) := by decide +kernel
theorem dX7_bestChange_54 : decode cX7_bestChange 54 = .ok (.istore 6, 2) := by decide +kernel
theorem dX7_bestChange_56 : decode cX7_bestChange 56 = .ok (.iload 8, 2) := by decide +kernel
theorem dX7_bestChange_58 : decode cX7_bestChange 58 = .ok (.istore 7, 2) := by decide +kernel
theorem dX7_bestChange_60 : decode cX7_bestChange 60 = .ok (.iinc 8 1, 3) := by decide +kernel
theorem dX7_bestChange_63 : decode cX7_bestChange 63 = .ok (.goto (-54), 3) := by decide +kernel
theorem dX7_bestChange_66 : decode cX7_bestChange 66 = .ok (.iload 5, 2) := by decide +kernel
theorem dX7_bestChange_68 : decode cX7_bestChange 68 = .ok (.ifCond .ne 8, 3) := by decide +kernel
theorem dX7_bestChange_71 : decode cX7_bestChange 71 = .ok (.iload 7, 2) := by decide +kernel
theorem dX7_bestChange_73 : decode cX7_bestChange 73 = .ok (.goto 5, 3) := by decide +kernel
theorem dX7_bestChange_76 : decode cX7_bestChange 76 = .ok (.iload 6, 2) := by decide +kernel
theorem dX7_bestChange_78 : decode cX7_bestChange 78 = .ok (.ireturn, 1) := by decide +kernel
set_option maxRecDepth 20000 in
theorem ggX7_fitting_X7_lowest : GoodIn wsX7_fitting wsX7_lowest := goodIn_r _ [8] (by decide +kernel) (by decide +kernel)
set_option maxRecDepth 20000 in
theorem gX7_fitting_X7_lowest : GoodIn wsX7_fitting (va_wsS RX7 293 yX7_lowest wsX7_lowest) := goodIn_app (goodIn_of _ (by decide +kernel)) ggX7_fitting_X7_lowest
set_option maxRecDepth 20000 in
theorem ggX7_fitting_X7_highest : GoodIn wsX7_fitting wsX7_highest := goodIn_r _ [11] (by decide +kernel) (by decide +kernel)
set_option maxRecDepth 20000 in
theorem gX7_fitting_X7_highest : GoodIn wsX7_fitting (va_wsS RX7 296 yX7_highest wsX7_highest) := goodIn_app (goodIn_of _ (by decide +kernel)) ggX7_fitting_X7_highest
set_option maxRecDepth 20000 in
theorem ggX7_fitting_X7_startTrial : GoodIn wsX7_fitting wsX7_startTrial := goodIn_r _ [15, 1, 16, 17, 18, 19, 20, 21, 22, 23, 24, 25, 26, 27, 28, 29, 30, 31, 32, 33, 34, 35, 36, 37, 38, 39, 40, 41, 42, 43, 44, 45, 46, 47, 48, 49, 50, 51, 52, 53, 54, 55, 56, 57, 58, 116, 117, 118, 119, 120, 121, 122, 123, 124, 125, 126, 127, 128, 129, 130, 131, 132, 133, 134, 135, 136, 137, 138, 139, 140, 141, 142] (by decide +kernel) (by decide +kernel)
set_option maxRecDepth 20000 in
theorem gX7_fitting_X7_startTrial : GoodIn wsX7_fitting (wsV RX7 174 RX7 yX7_startTrial wsX7_startTrial) := goodIn_app (goodIn_of _ (by decide +kernel)) ggX7_fitting_X7_startTrial
set_option maxRecDepth 20000 in
theorem ggX7_fitting_X1_change : GoodIn wsX7_fitting wsX1_change := goodIn_r _ [62, 37, 38, 39, 40, 63, 64, 65, 66, 137, 138, 139, 140, 141, 142] (by decide +kernel) (by decide +kernel)
set_option maxRecDepth 20000 in
theorem gX7_fitting_X1_change : GoodIn wsX7_fitting (wsV RX7 148 RX1 yX1_change wsX1_change) := goodIn_app (goodIn_of _ (by decide +kernel)) ggX7_fitting_X1_change
set_option maxRecDepth 20000 in
theorem ggX7_fitting_X7_countLetByTick : GoodIn wsX7_fitting wsX7_countLetByTick := goodIn_r _ [70, 1, 71, 72, 73, 20, 74, 75, 76, 77, 78, 24, 25, 29, 27, 79, 80, 81, 44, 82, 46, 48, 83, 84, 85, 86, 22, 23, 87, 88, 89, 90, 91, 30, 92, 64, 65, 66, 31, 93, 94, 95, 35, 96, 58, 63, 40, 37, 57, 97, 98, 99, 100, 38, 101, 102, 103, 104, 39, 105, 106, 107, 116, 117, 118, 119, 120, 121, 122, 123, 124, 125, 126, 127, 128, 129, 130, 131, 132, 133, 134, 135, 136, 137, 138, 139, 140, 141, 142] (by decide +kernel) (by decide +kernel)
set_option maxRecDepth 20000 in
theorem gX7_fitting_X7_countLetByTick : GoodIn wsX7_fitting (wsV RX7 239 RX7 yX7_countLetByTick wsX7_countLetByTick) := goodIn_app (goodIn_of _ (by decide +kernel)) ggX7_fitting_X7_countLetByTick
set_option maxRecDepth 20000 in
theorem ggX7_fitting_X3_agreesWith : GoodIn wsX7_fitting wsX3_agreesWith := goodIn_r _ [112, 113, 114, 115, 143, 144, 145] (by decide +kernel) (by decide +kernel)
