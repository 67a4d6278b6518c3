set_option maxRecDepth 20000 in
theorem gX7_fitting_X3_agreesWith : GoodIn wsX7_fitting (wsV RX7 302 RX3 yX3_agreesWith wsX3_agreesWith) := goodIn_app (goodIn_of _ (by decide +kernel)) ggX7_fitting_X3_agreesWith
theorem dX7_fitting_0 : decode cX7_fitting 0 = .ok (.iconst 0, 1) := by decide +kernel
theorem dX7_fitting_1 : decode cX7_fitting 1 = .ok (.istore_n 3, 1) := by decide +kernel
theorem dX7_fitting_2 : decode cX7_fitting 2 = .ok (.iload_n 2, 1) := by decide +kernel
theorem dX7_fitting_3 : decode cX7_fitting 3 = .ok (.invokestatic 293, 3) := by decide +kernel
theorem dX7_fitting_6 : decode cX7_fitting 6 = .ok (.istore 4, 2) := by decide +kernel
theorem dX7_fitting_8 : decode cX7_fitting 8 = .ok (.iload 4, 2) := by decide +kernel
theorem dX7_fitting_10 : decode cX7_fitting 10 = .ok (.iload_n 2, 1) := by decide +kernel
theorem dX7_fitting_11 : decode cX7_fitting 11 = .ok (.invokestatic 296, 3) := by decide +kernel
theorem dX7_fitting_14 : decode cX7_fitting 14 = .ok (.if_icmp .gt 57, 3) := by decide +kernel
theorem dX7_fitting_17 : decode cX7_fitting 17 = .ok (.aload_n 0, 1) := by decide +kernel
theorem dX7_fitting_18 : decode cX7_fitting 18 = .ok (.invokevirtual 174, 3) := by decide +kernel
theorem dX7_fitting_21 : decode cX7_fitting 21 = .ok (.aload_n 0, 1) := by decide +kernel
theorem dX7_fitting_22 : decode cX7_fitting 22 = .ok (.getfield 16, 3) := by decide +kernel
theorem dX7_fitting_25 : decode cX7_fitting 25 = .ok (.getfield 115, 3) := by decide +kernel
theorem dX7_fitting_28 : decode cX7_fitting 28 = .ok (.iload_n 1, 1) := by decide +kernel
theorem dX7_fitting_29 : decode cX7_fitting 29 = .ok (.aaload, 1) := by decide +kernel
theorem dX7_fitting_30 : decode cX7_fitting 30 = .ok (.iload_n 2, 1) := by decide +kernel
theorem dX7_fitting_31 : decode cX7_fitting 31 = .ok (.iload 4, 2) := by decide +kernel
theorem dX7_fitting_33 : decode cX7_fitting 33 = .ok (.invokevirtual 148, 3) := by decide +kernel
theorem dX7_fitting_36 : decode cX7_fitting 36 = .ok (.aload_n 0, 1) := by decide +kernel
theorem dX7_fitting_37 : decode cX7_fitting 37 = .ok (.aload_n 0, 1) := by decide +kernel
theorem dX7_fitting_38 : decode cX7_fitting 38 = .ok (.getfield 61, 3) := by decide +kernel
theorem dX7_fitting_41 : decode cX7_fitting 41 = .ok (.invokevirtual 239, 3) := by decide +kernel
theorem dX7_fitting_44 : decode cX7_fitting 44 = .ok (.aload_n 0, 1) := by decide +kernel
theorem dX7_fitting_45 : decode cX7_fitting 45 = .ok (.getfield 46, 3) := by decide +kernel
theorem dX7_fitting_48 : decode cX7_fitting 48 = .ok (.aload_n 0, 1) := by decide +kernel
theorem dX7_fitting_49 : decode cX7_fitting 49 = .ok (.getfield 61, 3) := by decide +kernel
theorem dX7_fitting_52 : decode cX7_fitting 52 = .ok (.invokevirtual 302, 3) := by decide +kernel
theorem dX7_fitting_55 : decode cX7_fitting 55 = .ok (.ifCond .eq 10, 3) := by decide +kernel
theorem dX7_fitting_58 : decode cX7_fitting 58 = .ok (.iload_n 3, 1) := by decide +kernel
theorem dX7_fitting_59 : decode cX7_fitting 59 = .ok (.iconst 1, 1) := by decide +kernel
theorem dX7_fitting_60 : decode cX7_fitting 60 = .ok (.iload 4, 2) := by decide +kernel
theorem dX7_fitting_62 : decode cX7_fitting 62 = .ok (.ishl, 1) := by decide +kernel
theorem dX7_fitting_63 : decode cX7_fitting 63 = .ok (.ior, 1) := by decide +kernel
theorem dX7_fitting_64 : decode cX7_fitting 64 = .ok (.istore_n 3, 1) := by decide +kernel
theorem dX7_fitting_65 : decode cX7_fitting 65 = .ok (.iinc 4 1, 3) := by decide +kernel
theorem dX7_fitting_68 : decode cX7_fitting 68 = .ok (.goto (-60), 3) := by decide +kernel
theorem dX7_fitting_71 : decode cX7_fitting 71 = .ok (.iload_n 3, 1) := by decide +kernel
theorem dX7_fitting_72 : decode cX7_fitting 72 = .ok (.ireturn, 1) := by decide +kernel
set_option maxRecDepth 20000 in
theorem ggX7_countLetByTick_X2_tickOn : GoodIn wsX7_countLetByTick wsX2_tickOn := goodIn_r _ [6, 7, 8, 9, 5, 10, 11, 12, 13, 14, 15, 16, 17, 18, 19, 20, 21, 22, 23, 24, 25, 26, 27, 28, 29, 30, 31, 32, 33, 34, 35, 36, 37, 38, 39, 40, 41, 42, 43, 44, 45, 46, 47, 48, 49, 50, 51, 52, 53, 54, 55, 56, 57, 58, 59, 60, 61, 73, 74, 75, 76, 77, 78, 79, 80, 81, 82, 83, 84, 85, 86, 87, 88] (by decide +kernel) (by decide +kernel)
set_option maxRecDepth 20000 in
theorem gX7_countLetByTick_X2_tickOn : GoodIn wsX7_countLetByTick (wsV RX7 177 RX2 yX2_tickOn wsX2_tickOn) := goodIn_app (goodIn_of _ (by decide +kernel)) ggX7_countLetByTick_X2_tickOn
theorem dX7_countLetByTick_0 : decode cX7_countLetByTick 0 = .ok (.iconst 0, 1) := by decide +kernel
theorem dX7_countLetByTick_1 : decode cX7_countLetByTick 1 = .ok (.istore_n 2, 1) := by decide +kernel
theorem dX7_countLetByTick_2 : decode cX7_countLetByTick 2 = .ok (.iload_n 2, 1) := by decide +kernel
theorem dX7_countLetByTick_3 : decode cX7_countLetByTick 3 = .ok (.aload_n 1, 1) := by decide +kernel
theorem dX7_countLetByTick_4 : decode cX7_countLetByTick 4 = .ok (.arraylength, 1) := by decide +kernel
theorem dX7_countLetByTick_5 : decode cX7_countLetByTick 5 = .ok (.if_icmp .ge 19, 3) := by decide +kernel
theorem dX7_countLetByTick_8 : decode cX7_countLetByTick 8 = .ok (.aload_n 1, 1) := by decide +kernel
theorem dX7_countLetByTick_9 : decode cX7_countLetByTick 9 = .ok (.iload_n 2, 1) := by decide +kernel
theorem dX7_countLetByTick_10 : decode cX7_countLetByTick 10 = .ok (.aload_n 0, 1) := by decide +kernel
theorem dX7_countLetByTick_11 : decode cX7_countLetByTick 11 = .ok (.getfield 16, 3) := by decide +kernel
theorem dX7_countLetByTick_14 : decode cX7_countLetByTick 14 = .ok (.invokevirtual 177, 3) := by decide +kernel
theorem dX7_countLetByTick_17 : decode cX7_countLetByTick 17 = .ok (.iastore, 1) := by decide +kernel
theorem dX7_countLetByTick_18 : decode cX7_countLetByTick 18 = .ok (.iinc 2 1, 3) := by decide +kernel
theorem dX7_countLetByTick_21 : decode cX7_countLetByTick 21 = .ok (.goto (-19), 3) := by decide +kernel
theorem dX7_countLetByTick_24 : decode cX7_countLetByTick 24 = .ok (.return_, 1) := by decide +kernel
set_option maxRecDepth 20000 in
theorem ggX7_leftAtWorst_X7_sharing : GoodIn wsX7_leftAtWorst wsX7_sharing := goodIn_r _ [10, 1, 11, 12, 13, 14, 15, 16, 17, 18, 19, 20, 21] (by decide +kernel) (by decide +kernel)
set_option maxRecDepth 20000 in
theorem gX7_leftAtWorst_X7_sharing : GoodIn wsX7_leftAtWorst (wsV RX7 306 RX7 yX7_sharing wsX7_sharing) := goodIn_app (goodIn_of _ (by decide +kernel)) ggX7_leftAtWorst_X7_sharing
theorem dX7_leftAtWorst_0 : decode cX7_leftAtWorst 0 = .ok (.iconst 0, 1) := by decide +kernel
theorem dX7_leftAtWorst_1 : decode cX7_leftAtWorst 1 = .ok (.istore_n 3, 1) := by decide +kernel
theorem dX7_leftAtWorst_2 : decode cX7_leftAtWorst 2 = .ok (.iconst 0, 1) := by decide +kernel
theorem dX7_leftAtWorst_3 : decode cX7_leftAtWorst 3 = .ok (.istore 4, 2) := by decide +kernel
theorem dX7_leftAtWorst_5 : decode cX7_leftAtWorst 5 = .ok (.iload 4, 2) := by decide +kernel
theorem dX7_leftAtWorst_7 : decode cX7_leftAtWorst 7 = .ok (.bipush 9, 2) := by decide +kernel
theorem dX7_leftAtWorst_9 : decode cX7_leftAtWorst 9 = .ok (.if_icmp .gt 39, 3) := by decide +kernel
theorem dX7_leftAtWorst_12 : decode cX7_leftAtWorst 12 = .ok (.iload_n 1, 1) := by decide +kernel
theorem dX7_leftAtWorst_13 : decode cX7_leftAtWorst 13 = .ok (.iload 4, 2) := by decide +kernel
theorem dX7_leftAtWorst_15 : decode cX7_leftAtWorst 15 = .ok (.ishr, 1) := by decide +kernel
theorem dX7_leftAtWorst_16 : decode cX7_leftAtWorst 16 = .ok (.iconst 1, 1) := by decide +kernel
theorem dX7_leftAtWorst_17 : decode cX7_leftAtWorst 17 = .ok (.iand, 1) := by decide +kernel
theorem dX7_leftAtWorst_18 : decode cX7_leftAtWorst 18 = .ok (.iconst 1, 1) := by decide +kernel
theorem dX7_leftAtWorst_19 : decode cX7_leftAtWorst 19 = .ok (.if_icmp .ne 23, 3) := by decide +kernel
theorem dX7_leftAtWorst_22 : decode cX7_leftAtWorst 22 = .ok (.iload_n 3, 1) := by decide +kernel
theorem dX7_leftAtWorst_23 : decode cX7_leftAtWorst 23 = .ok (.aload_n 0, 1) := by decide +kernel
theorem dX7_leftAtWorst_24 : decode cX7_leftAtWorst 24 = .ok (.iload_n 1, 1) := by decide +kernel
theorem dX7_leftAtWorst_25 : decode cX7_leftAtWorst 25 = .ok (.iload_n 2, 1) := by decide +kernel
theorem dX7_leftAtWorst_26 : decode cX7_leftAtWorst 26 = .ok (.aload_n 0, 1) := by decide +kernel
theorem dX7_leftAtWorst_27 : decode cX7_leftAtWorst 27 = .ok (.getfield 58, 3) := by decide +kernel
theorem dX7_leftAtWorst_30 : decode cX7_leftAtWorst 30 = .ok (.iload 4, 2) := by decide +kernel
theorem dX7_leftAtWorst_32 : decode cX7_leftAtWorst 32 = .ok (.aaload, 1) := by decide +kernel
theorem dX7_leftAtWorst_33 : decode cX7_leftAtWorst 33 = .ok (.iload_n 2, 1) := by decide +kernel
theorem dX7_leftAtWorst_34 : decode cX7_leftAtWorst 34 = .ok (.iaload, 1) := by decide +kernel
theorem dX7_leftAtWorst_35 : decode cX7_leftAtWorst 35 = .ok (.invokevirtual 306, 3) := by decide +kernel
theorem dX7_leftAtWorst_38 : decode cX7_leftAtWorst 38 = .ok (.invokestatic 180, 3) := by decide +kernel
theorem dX7_leftAtWorst_41 : decode cX7_leftAtWorst 41 = .ok (.istore_n 3, 1) := by decide +kernel
theorem dX7_leftAtWorst_42 : decode cX7_leftAtWorst 42 = .ok (.iinc 4 1, 3) := by decide +kernel
theorem dX7_leftAtWorst_45 : decode cX7_leftAtWorst 45 = .ok (.goto (-40), 3) := by decide +kernel
theorem dX7_leftAtWorst_48 : decode cX7_leftAtWorst 48 = .ok (.iload_n 3, 1) := by decide +kernel
theorem dX7_leftAtWorst_49 : decode cX7_leftAtWorst 49 = .ok (.ireturn, 1) := by decide +kernel
theorem dX7_sharing_0 : decode cX7_sharing 0 = .ok (.iconst 0, 1) := by decide +kernel
theorem dX7_sharing_1 : decode cX7_sharing 1 = .ok (.istore 4, 2) := by decide +kernel
theorem dX7_sharing_3 : decode cX7_sharing 3 = .ok (.iconst 0, 1) := by decide +kernel
theorem dX7_sharing_4 : decode cX7_sharing 4 = .ok (.istore 5, 2) := by decide +kernel
theorem dX7_sharing_6 : decode cX7_sharing 6 = .ok (.iload 5, 2) := by decide +kernel
theorem dX7_sharing_8 : decode cX7_sharing 8 = .ok (.bipush 9, 2) := by decide +kernel
theorem dX7_sharing_10 : decode cX7_sharing 10 = .ok (.if_icmp .gt 35, 3) := by decide +kernel
theorem dX7_sharing_13 : decode cX7_sharing 13 = .ok (.iload_n 1, 1) := by decide +kernel
theorem dX7_sharing_14 : decode cX7_sharing 14 = .ok (.iload 5, 2) := by decide +kernel
theorem dX7_sharing_16 : decode cX7_sharing 16 = .ok (.ishr, 1) := by decide +kernel
theorem dX7_sharing_17 : decode cX7_sharing 17 = .ok (.iconst 1, 1) := by decide +kernel
theorem dX7_sharing_18 : decode cX7_sharing 18 = .ok (.iand, 1) := by decide +kernel
theorem dX7_sharing_19 : decode cX7_sharing 19 = .ok (.iconst 1, 1) := by decide +kernel
theorem dX7_sharing_20 : decode cX7_sharing 20 = .ok (.if_icmp .ne 19, 3) := by decide +kernel
theorem dX7_sharing_23 : decode cX7_sharing 23 = .ok (.aload_n 0, 1) := by decide +kernel
theorem dX7_sharing_24 : decode cX7_sharing 24 = .ok (.getfield 58, 3) := by decide +kernel
theorem dX7_sharing_27 : decode cX7_sharing 27 = .ok (.iload 5, 2) := by decide +kernel
theorem dX7_sharing_29 : decode cX7_sharing 29 = .ok (.aaload, 1) := by decide +kernel
theorem dX7_sharing_30 : decode cX7_sharing 30 = .ok (.iload_n 2, 1) := by decide +kernel
theorem dX7_sharing_31 : decode cX7_sharing 31 = .ok (.iaload, 1) := by decide +kernel
theorem dX7_sharing_32 : decode cX7_sharing 32 = .ok (.iload_n 3, 1) := by decide +kernel
theorem dX7_sharing_33 : decode cX7_sharing 33 = .ok (.if_icmp .ne 6, 3) := by decide +kernel
theorem dX7_sharing_36 : decode cX7_sharing 36 = .ok (.iinc 4 1, 3) := by decide +kernel
theorem dX7_sharing_39 : decode cX7_sharing 39 = .ok (.iinc 5 1, 3) := by decide +kernel
theorem dX7_sharing_42 : decode cX7_sharing 42 = .ok (.goto (-36), 3) := by decide +kernel
theorem dX7_sharing_45 : decode cX7_sharing 45 = .ok (.iload 4, 2) := by decide +kernel
theorem dX7_sharing_47 : decode cX7_sharing 47 = .ok (.ireturn, 1) := by decide +kernel
set_option maxRecDepth 20000 in
theorem ggX7_comesFrom_X7_isCrowd : GoodIn wsX7_comesFrom wsX7_isCrowd := goodIn_r _ [6] (by decide +kernel) (by decide +kernel)
set_option maxRecDepth 20000 in
theorem gX7_comesFrom_X7_isCrowd : GoodIn wsX7_comesFrom (va_wsS RX7 156 yX7_isCrowd wsX7_isCrowd) := goodIn_app (goodIn_of _ (by decide +kernel)) ggX7_comesFrom_X7_isCrowd
set_option maxRecDepth 20000 in
theorem ggX7_comesFrom_X2_addCrowd : GoodIn wsX7_comesFrom wsX2_addCrowd := goodIn_r _ [11, 12, 13, 14, 15, 16, 17, 18, 19, 20, 21, 37, 38, 39, 40, 41, 42, 43, 44, 45, 46] (by decide +kernel) (by decide +kernel)
set_option maxRecDepth 20000 in
theorem gX7_comesFrom_X2_addCrowd : GoodIn wsX7_comesFrom (wsV RX7 159 RX2 yX2_addCrowd wsX2_addCrowd) := goodIn_app (goodIn_of _ (by decide +kernel)) ggX7_comesFrom_X2_addCrowd
theorem dX7_comesFrom_0 : decode cX7_comesFrom 0 = .ok (.aload_n 1, 1) := by decide +kernel
theorem dX7_comesFrom_1 : decode cX7_comesFrom 1 = .ok (.getfield 309, 3) := by decide +kernel
theorem dX7_comesFrom_4 : decode cX7_comesFrom 4 = .ok (.iload_n 2, 1) := by decide +kernel
theorem dX7_comesFrom_5 : decode cX7_comesFrom 5 = .ok (.iaload, 1) := by decide +kernel
theorem dX7_comesFrom_6 : decode cX7_comesFrom 6 = .ok (.istore_n 3, 1) := by decide +kernel
theorem dX7_comesFrom_7 : decode cX7_comesFrom 7 = .ok (.aload_n 1, 1) := by decide +kernel
theorem dX7_comesFrom_8 : decode cX7_comesFrom 8 = .ok (.getfield 309, 3) := by decide +kernel
theorem dX7_comesFrom_11 : decode cX7_comesFrom 11 = .ok (.iload_n 2, 1) := by decide +kernel
theorem dX7_comesFrom_12 : decode cX7_comesFrom 12 = .ok (.iconst 1, 1) := by decide +kernel
theorem dX7_comesFrom_13 : decode cX7_comesFrom 13 = .ok (.iadd, 1) := by decide +kernel
theorem dX7_comesFrom_14 : decode cX7_comesFrom 14 = .ok (.iaload, 1) := by decide +kernel
theorem dX7_comesFrom_15 : decode cX7_comesFrom 15 = .ok (.istore 4, 2) := by decide +kernel
theorem dX7_comesFrom_17 : decode cX7_comesFrom 17 = .ok (.aload_n 1, 1) := by decide +kernel
theorem dX7_comesFrom_18 : decode cX7_comesFrom 18 = .ok (.getfield 309, 3) := by decide +kernel
theorem dX7_comesFrom_21 : decode cX7_comesFrom 21 = .ok (.iload_n 2, 1) := by decide +kernel
theorem dX7_comesFrom_22 : decode cX7_comesFrom 22 = .ok (.iconst 2, 1) := by decide +kernel
theorem dX7_comesFrom_23 : decode cX7_comesFrom 23 = .ok (.iadd, 1) := by decide +kernel
theorem dX7_comesFrom_24 : decode cX7_comesFrom 24 = .ok (.iaload, 1) := by decide +kernel
theorem dX7_comesFrom_25 : decode cX7_comesFrom 25 = .ok (.istore 5, 2) := by decide +kernel
theorem dX7_comesFrom_27 : decode cX7_comesFrom 27 = .ok (.iload_n 3, 1) := by decide +kernel
theorem dX7_comesFrom_28 : decode cX7_comesFrom 28 = .ok (.iload 4, 2) := by decide +kernel
theorem dX7_comesFrom_30 : decode cX7_comesFrom 30 = .ok (.iload 5, 2) := by decide +kernel
theorem dX7_comesFrom_32 : decode cX7_comesFrom 32 = .ok (.invokestatic 156, 3) := by decide +kernel
theorem dX7_comesFrom_35 : decode cX7_comesFrom 35 = .ok (.ifCond .eq 22, 3) := by decide +kernel
theorem dX7_comesFrom_38 : decode cX7_comesFrom 38 = .ok (.aload_n 0, 1) := by decide +kernel
theorem dX7_comesFrom_39 : decode cX7_comesFrom 39 = .ok (.getfield 10, 3) := by decide +kernel
theorem dX7_comesFrom_42 : decode cX7_comesFrom 42 = .ok (.iload_n 3, 1) := by decide +kernel
theorem dX7_comesFrom_43 : decode cX7_comesFrom 43 = .ok (.iload 4, 2) := by decide +kernel
theorem dX7_comesFrom_45 : decode cX7_comesFrom 45 = .ok (.iload 5, 2) := by decide +kernel
theorem dX7_comesFrom_47 : decode cX7_comesFrom 47 = .ok (.invokevirtual 159, 3) := by decide +kernel
theorem dX7_comesFrom_50 : decode cX7_comesFrom 50 = .ok (.ifCond .eq 7, 3) := by decide +kernel
theorem dX7_comesFrom_53 : decode cX7_comesFrom 53 = .ok (.iconst 1, 1) := by decide +kernel
theorem dX7_comesFrom_54 : decode cX7_comesFrom 54 = .ok (.goto 4, 3) := by decide +kernel
theorem dX7_comesFrom_57 : decode cX7_comesFrom 57 = .ok (.iconst 0, 1) := by decide +kernel
theorem dX7_comesFrom_58 : decode cX7_comesFrom 58 = .ok (.ireturn, 1) := by decide +kernel
set_option maxRecDepth 20000 in
theorem ggX7_weighAll_J6_bitCount_0f7a4 : GoodIn wsX7_weighAll wsJ6_bitCount_0f7a4 := goodIn_r _ [7, 8, 9, 10] (by decide +kernel) (by decide +kernel)
set_option maxRecDepth 20000 in
theorem gX7_weighAll_J6_bitCount_0f7a4 : GoodIn wsX7_weighAll (va_wsS RX7 243 yJ6_bitCount_0f7a4 wsJ6_bitCount_0f7a4) := goodIn_app (goodIn_of _ (by decide +kernel)) ggX7_weighAll_J6_bitCount_0f7a4
set_option maxRecDepth 20000 in
theorem ggX7_weighAll_X7_power : GoodIn wsX7_weighAll wsX7_power := goodIn_r _ [14] (by decide +kernel) (by decide +kernel)
set_option maxRecDepth 20000 in
theorem gX7_weighAll_X7_power : GoodIn wsX7_weighAll (va_wsS RX7 225 yX7_power wsX7_power) := goodIn_app (goodIn_of _ (by decide +kernel)) ggX7_weighAll_X7_power
set_option maxRecDepth 20000 in
theorem ggX7_weighAll_X7_runQuiet : GoodIn wsX7_weighAll wsX7_runQuiet := goodIn_r _ [18, 1, 19, 20, 21, 13, 22, 23, 24, 25, 26, 27, 28, 29, 30, 31, 32, 33, 34, 35, 36, 37, 38, 39, 40, 41, 42, 43, 44, 45, 46, 47, 48, 49, 50, 51, 52, 53, 54, 55, 56, 57, 58, 59, 60, 61, 62, 63, 64, 65, 66, 67, 68, 69, 70, 71, 72, 73, 74, 75, 76, 77, 78, 79, 80, 81, 82, 83, 84, 85, 86, 87, 88, 89, 90, 91, 92, 93, 94, 95, 96, 97, 98, 99, 100, 101, 102, 103, 104, 105, 106, 107, 108, 109, 110, 111, 112, 113, 114, 115, 116, 117, 118, 119, 120, 121, 122, 123, 124, 125, 126, 127, 128, 129] (by decide +kernel) (by decide +kernel)
set_option maxRecDepth 20000 in
theorem gX7_weighAll_X7_runQuiet : GoodIn wsX7_weighAll (wsV RX7 312 RX7 yX7_runQuiet wsX7_runQuiet) := goodIn_app (goodIn_of _ (by decide +kernel)) ggX7_weighAll_X7_runQuiet
theorem dX7_weighAll_0 : decode cX7_weighAll 0 = .ok (.lconst 0, 1) := by decide +kernel
theorem dX7_weighAll_1 : decode cX7_weighAll 1 = .ok (.lstore 4, 2) := by decide +kernel
theorem dX7_weighAll_3 : decode cX7_weighAll 3 = .ok (.iconst 0, 1) := by decide +kernel
theorem dX7_weighAll_4 : decode cX7_weighAll 4 = .ok (.istore 6, 2) := by decide +kernel
theorem dX7_weighAll_6 : decode cX7_weighAll 6 = .ok (.iload 6, 2) := by decide +kernel
theorem dX7_weighAll_8 : decode cX7_weighAll 8 = .ok (.iconst 1, 1) := by decide +kernel
theorem dX7_weighAll_9 : decode cX7_weighAll 9 = .ok (.iload_n 2, 1) := by decide +kernel
theorem dX7_weighAll_10 : decode cX7_weighAll 10 = .ok (.ishl, 1) := by decide +kernel
theorem dX7_weighAll_11 : decode cX7_weighAll 11 = .ok (.if_icmp .ge 92, 3) := by decide +kernel
theorem dX7_weighAll_14 : decode cX7_weighAll 14 = .ok (.iload 6, 2) := by decide +kernel
theorem dX7_weighAll_16 : decode cX7_weighAll 16 = .ok (.invokestatic 243, 3) := by decide +kernel
theorem dX7_weighAll_19 : decode cX7_weighAll 19 = .ok (.istore 7, 2) := by decide +kernel
theorem dX7_weighAll_21 : decode cX7_weighAll 21 = .ok (.iload_n 1, 1) := by decide +kernel
theorem dX7_weighAll_22 : decode cX7_weighAll 22 = .ok (.iload 7, 2) := by decide +kernel
theorem dX7_weighAll_24 : decode cX7_weighAll 24 = .ok (.invokestatic 225, 3) := by decide +kernel
theorem dX7_weighAll_27 : decode cX7_weighAll 27 = .ok (.bipush 10, 2) := by decide +kernel
theorem dX7_weighAll_29 : decode cX7_weighAll 29 = .ok (.iload_n 1, 1) := by decide +kernel
theorem dX7_weighAll_30 : decode cX7_weighAll 30 = .ok (.isub, 1) := by decide +kernel
theorem dX7_weighAll_31 : decode cX7_weighAll 31 = .ok (.iload_n 2, 1) := by decide +kernel
theorem dX7_weighAll_32 : decode cX7_weighAll 32 = .ok (.iload 7, 2) := by decide +kernel
theorem dX7_weighAll_34 : decode cX7_weighAll 34 = .ok (.isub, 1) := by decide +kernel
theorem dX7_weighAll_35 : decode cX7_weighAll 35 = .ok (.invokestatic 225, 3) := by decide +kernel
theorem dX7_weighAll_38 : decode cX7_weighAll 38 = .ok (.lmul, 1) := by decide +kernel
theorem dX7_weighAll_39 : decode cX7_weighAll 39 = .ok (.lstore 8, 2) := by decide +kernel
theorem dX7_weighAll_41 : decode cX7_weighAll 41 = .ok (.lload 8, 2) := by decide +kernel
theorem dX7_weighAll_43 : decode cX7_weighAll 43 = .ok (.lconst 0, 1) := by decide +kernel
theorem dX7_weighAll_44 : decode cX7_weighAll 44 = .ok (.lcmp, 1) := by decide +kernel
theorem dX7_weighAll_45 : decode cX7_weighAll 45 = .ok (.ifCond .eq 52, 3) := by decide +kernel
theorem dX7_weighAll_48 : decode cX7_weighAll 48 = .ok (.aload_n 0, 1) := by decide +kernel
theorem dX7_weighAll_49 : decode cX7_weighAll 49 = .ok (.iload 6, 2) := by decide +kernel
theorem dX7_weighAll_51 : decode cX7_weighAll 51 = .ok (.iload_n 2, 1) := by decide +kernel
theorem dX7_weighAll_52 : decode cX7_weighAll 52 = .ok (.invokevirtual 312, 3) := by decide +kernel
theorem dX7_weighAll_55 : decode cX7_weighAll 55 = .ok (.aload_n 0, 1) := by decide +kernel
theorem dX7_weighAll_56 : decode cX7_weighAll 56 = .ok (.getfield 16, 3) := by decide +kernel
theorem dX7_weighAll_59 : decode cX7_weighAll 59 = .ok (.getfield 103, 3) := by decide +kernel
theorem dX7_weighAll_62 : decode cX7_weighAll 62 = .ok (.ifCond .ne 7, 3) := by decide +kernel
theorem dX7_weighAll_65 : decode cX7_weighAll 65 = .ok (.iconst 1, 1) := by decide +kernel
theorem dX7_weighAll_66 : decode cX7_weighAll 66 = .ok (.goto 4, 3) := by decide +kernel
theorem dX7_weighAll_69 : decode cX7_weighAll 69 = .ok (.iconst 0, 1) := by decide +kernel
theorem dX7_weighAll_70 : decode cX7_weighAll 70 = .ok (.istore 10, 2) := by decide +kernel
theorem dX7_weighAll_72 : decode cX7_weighAll 72 = .ok (.lload 4, 2) := by decide +kernel
theorem dX7_weighAll_74 : decode cX7_weighAll 74 = .ok (.lload 8, 2) := by decide +kernel
theorem dX7_weighAll_76 : decode cX7_weighAll 76 = .ok (.iload_n 3, 1) := by decide +kernel
theorem dX7_weighAll_77 : decode cX7_weighAll 77 = .ok (.ifCond .eq 13, 3) := by decide +kernel
theorem dX7_weighAll_80 : decode cX7_weighAll 80 = .ok (.aload_n 0, 1) := by decide +kernel
theorem dX7_weighAll_81 : decode cX7_weighAll 81 = .ok (.getfield 16, 3) := by decide +kernel
theorem dX7_weighAll_84 : decode cX7_weighAll 84 = .ok (.getfield 100, 3) := by decide +kernel
theorem dX7_weighAll_87 : decode cX7_weighAll 87 = .ok (.goto 5, 3) := by decide +kernel
theorem dX7_weighAll_90 : decode cX7_weighAll 90 = .ok (.iload 10, 2) := by decide +kernel
theorem dX7_weighAll_92 : decode cX7_weighAll 92 = .ok (.i2l, 1) := by decide +kernel
theorem dX7_weighAll_93 : decode cX7_weighAll 93 = .ok (.lmul, 1) := by decide +kernel
theorem dX7_weighAll_94 : decode cX7_weighAll 94 = .ok (.ladd, 1) := by decide +kernel
theorem dX7_weighAll_95 : decode cX7_weighAll 95 = .ok (.lstore 4, 2) := by decide +kernel
theorem dX7_weighAll_97 : decode cX7_weighAll 97 = .ok (.iinc 6 1, 3) := by decide +kernel
theorem dX7_weighAll_100 : decode cX7_weighAll 100 = .ok (.goto (-94), 3) := by decide +kernel
theorem dX7_weighAll_103 : decode cX7_weighAll 103 = .ok (.lload 4, 2) := by decide +kernel
theorem dX7_weighAll_105 : decode cX7_weighAll 105 = .ok (.lreturn, 1) := by decide +kernel
set_option maxRecDepth 20000 in
theorem ggX7_runQuiet_X7_startTrial : GoodIn wsX7_runQuiet wsX7_startTrial := goodIn_r _ [6, 1, 7, 8, 9, 10, 11, 12, 13, 14, 15, 16, 17, 18, 19, 20, 21, 22, 23, 24, 25, 26, 27, 28, 29, 30, 31, 32, 33, 34, 35, 36, 37, 38, 39, 40, 41, 42, 43, 44, 45, 46, 47, 48, 49, 87, 88, 89, 90, 91, 92, 93, 94, 95, 96, 97, 98, 99, 100, 101, 102, 103, 104, 105, 106, 107, 108, 109, 110, 111, 112, 113] (by decide +kernel) (by decide +kernel)
set_option maxRecDepth 20000 in
theorem gX7_runQuiet_X7_startTrial : GoodIn wsX7_runQuiet (wsV RX7 174 RX7 yX7_startTrial wsX7_startTrial) := goodIn_app (goodIn_of _ (by decide +kernel)) ggX7_runQuiet_X7_startTrial
set_option maxRecDepth 20000 in
theorem ggX7_runQuiet_X2_comers : GoodIn wsX7_runQuiet wsX2_comers := goodIn_r _ [53, 15, 16, 20, 18, 54, 55, 56, 35, 57, 37, 39, 98, 99, 100, 101, 102, 103, 104, 105, 106, 107] (by decide +kernel) (by decide +kernel)
set_option maxRecDepth 20000 in
theorem gX7_runQuiet_X2_comers : GoodIn wsX7_runQuiet (wsV RX7 106 RX2 yX2_comers wsX2_comers) := goodIn_app (goodIn_of _ (by decide +kernel)) ggX7_runQuiet_X2_comers
set_option maxRecDepth 20000 in
theorem ggX7_runQuiet_X2_tickWith : GoodIn wsX7_runQuiet wsX2_tickWith := goodIn_r _ [61, 13, 14, 20, 62, 63, 64, 11, 65, 66, 21, 67, 68, 69, 70, 22, 71, 72, 73, 26, 74, 49, 75, 31, 28, 48, 76, 77, 78, 79, 29, 80, 81, 82, 83, 30, 84, 85, 86, 98, 99, 100, 101, 102, 103, 104, 108, 109, 110, 111, 112, 113] (by decide +kernel) (by decide +kernel)
set_option maxRecDepth 20000 in
theorem gX7_runQuiet_X2_tickWith : GoodIn wsX7_runQuiet (wsV RX7 252 RX2 yX2_tickWith wsX2_tickWith) := goodIn_app (goodIn_of _ (by decide +kernel)) ggX7_runQuiet_X2_tickWith
theorem dX7_runQuiet_0 : decode cX7_runQuiet 0 = .ok (.aload_n 0, 1) := by decide +kernel
theorem dX7_runQuiet_1 : decode cX7_runQuiet 1 = .ok (.invokevirtual 174, 3) := by decide +kernel
theorem dX7_runQuiet_4 : decode cX7_runQuiet 4 = .ok (.iconst 0, 1) := by decide +kernel
theorem dX7_runQuiet_5 : decode cX7_runQuiet 5 = .ok (.istore_n 3, 1) := by decide +kernel
theorem dX7_runQuiet_6 : decode cX7_runQuiet 6 = .ok (.iload_n 3, 1) := by decide +kernel
theorem dX7_runQuiet_7 : decode cX7_runQuiet 7 = .ok (.iload_n 2, 1) := by decide +kernel
theorem dX7_runQuiet_8 : decode cX7_runQuiet 8 = .ok (.if_icmp .ge 37, 3) := by decide +kernel
theorem dX7_runQuiet_11 : decode cX7_runQuiet 11 = .ok (.aload_n 0, 1) := by decide +kernel
theorem dX7_runQuiet_12 : decode cX7_runQuiet 12 = .ok (.getfield 16, 3) := by decide +kernel
theorem dX7_runQuiet_15 : decode cX7_runQuiet 15 = .ok (.iload_n 1, 1) := by decide +kernel
theorem dX7_runQuiet_16 : decode cX7_runQuiet 16 = .ok (.iload_n 3, 1) := by decide +kernel
theorem dX7_runQuiet_17 : decode cX7_runQuiet 17 = .ok (.ishr, 1) := by decide +kernel
theorem dX7_runQuiet_18 : decode cX7_runQuiet 18 = .ok (.iconst 1, 1) := by decide +kernel
theorem dX7_runQuiet_19 : decode cX7_runQuiet 19 = .ok (.iand, 1) := by decide +kernel
theorem dX7_runQuiet_20 : decode cX7_runQuiet 20 = .ok (.iconst 1, 1) := by decide +kernel
theorem dX7_runQuiet_21 : decode cX7_runQuiet 21 = .ok (.if_icmp .ne 7, 3) := by decide +kernel
theorem dX7_runQuiet_24 : decode cX7_runQuiet 24 = .ok (.iconst 0, 1) := by decide +kernel
theorem dX7_runQuiet_25 : decode cX7_runQuiet 25 = .ok (.goto 10, 3) := by decide +kernel
theorem dX7_runQuiet_28 : decode cX7_runQuiet 28 = .ok (.aload_n 0, 1) := by decide +kernel
theorem dX7_runQuiet_29 : decode cX7_runQuiet 29 = .ok (.getfield 16, 3) := by decide +kernel
theorem dX7_runQuiet_32 : decode cX7_runQuiet 32 = .ok (.invokevirtual 106, 3) := by decide +kernel
theorem dX7_runQuiet_35 : decode cX7_runQuiet 35 = .ok (.invokevirtual 252, 3) := by decide +kernel
theorem dX7_runQuiet_38 : decode cX7_runQuiet 38 = .ok (.pop, 1) := by decide +kernel
theorem dX7_runQuiet_39 : decode cX7_runQuiet 39 = .ok (.iinc 3 1, 3) := by decide +kernel
theorem dX7_runQuiet_42 : decode cX7_runQuiet 42 = .ok (.goto (-36), 3) := by decide +kernel
theorem dX7_runQuiet_45 : decode cX7_runQuiet 45 = .ok (.return_, 1) := by decide +kernel
theorem dX7_power_0 : decode cX7_power 0 = .ok (.lconst 1, 1) := by decide +kernel
theorem dX7_power_1 : decode cX7_power 1 = .ok (.lstore_n 2, 1) := by decide +kernel
theorem dX7_power_2 : decode cX7_power 2 = .ok (.iconst 0, 1) := by decide +kernel
theorem dX7_power_3 : decode cX7_power 3 = .ok (.istore 4, 2) := by decide +kernel
theorem dX7_power_5 : decode cX7_power 5 = .ok (.iload 4, 2) := by decide +kernel
theorem dX7_power_7 : decode cX7_power 7 = .ok (.iload_n 1, 1) := by decide +kernel
theorem dX7_power_8 : decode cX7_power 8 = .ok (.if_icmp .ge 14, 3) := by decide +kernel
theorem dX7_power_11 : decode cX7_power 11 = .ok (.lload_n 2, 1) := by decide +kernel
theorem dX7_power_12 : decode cX7_power 12 = .ok (.iload_n 0, 1) := by decide +kernel
theorem dX7_power_13 : decode cX7_power 13 = .ok (.i2l, 1) := by decide +kernel
theorem dX7_power_14 : decode cX7_power 14 = .ok (.lmul, 1) := by decide +kernel
theorem dX7_power_15 : decode cX7_power 15 = .ok (.lstore_n 2, 1) := by decide +kernel
theorem dX7_power_16 : decode cX7_power 16 = .ok (.iinc 4 1, 3) := by decide +kernel
theorem dX7_power_19 : decode cX7_power 19 = .ok (.goto (-14), 3) := by decide +kernel
theorem dX7_power_22 : decode cX7_power 22 = .ok (.lload_n 2, 1) := by decide +kernel
theorem dX7_power_23 : decode cX7_power 23 = .ok (.lreturn, 1) := by decide +kernel
set_option maxRecDepth 20000 in
theorem ggX7_part_X7_commonDivisor : GoodIn wsX7_part wsX7_commonDivisor := goodIn_r _ [8] (by decide +kernel) (by decide +kernel)
set_option maxRecDepth 20000 in
theorem gX7_part_X7_commonDivisor : GoodIn wsX7_part (va_wsS RX7 315 yX7_commonDivisor wsX7_commonDivisor) := goodIn_app (goodIn_of _ (by decide +kernel)) ggX7_part_X7_commonDivisor
theorem dX7_part_0 : decode cX7_part 0 = .ok (.lconst 1, 1) := by decide +kernel
theorem dX7_part_1 : decode cX7_part 1 = .ok (.lload_n 0, 1) := by decide +kernel
theorem dX7_part_2 : decode cX7_part 2 = .ok (.lload_n 2, 1) := by decide +kernel
theorem dX7_part_3 : decode cX7_part 3 = .ok (.invokestatic 315, 3) := by decide +kernel
theorem dX7_part_6 : decode cX7_part 6 = .ok (.invokestatic 319, 3) := by decide +kernel
theorem dX7_part_9 : decode cX7_part 9 = .ok (.lstore 5, 2) := by decide +kernel
theorem dX7_part_11 : decode cX7_part 11 = .ok (.iload 4, 2) := by decide +kernel
theorem dX7_part_13 : decode cX7_part 13 = .ok (.ifCond .ne 7, 3) := by decide +kernel
theorem dX7_part_16 : decode cX7_part 16 = .ok (.lload_n 0, 1) := by decide +kernel
theorem dX7_part_17 : decode cX7_part 17 = .ok (.goto 4, 3) := by decide +kernel
theorem dX7_part_20 : decode cX7_part 20 = .ok (.lload_n 2, 1) := by decide +kernel
theorem dX7_part_21 : decode cX7_part 21 = .ok (.lload 5, 2) := by decide +kernel
theorem dX7_part_23 : decode cX7_part 23 = .ok (.ldiv, 1) := by decide +kernel
theorem dX7_part_24 : decode cX7_part 24 = .ok (.lreturn, 1) := by decide +kernel
theorem dX7_commonDivisor_0 : decode cX7_commonDivisor 0 = .ok (.lload_n 0, 1) := by decide +kernel
theorem dX7_commonDivisor_1 : decode cX7_commonDivisor 1 = .ok (.lstore 4, 2) := by decide +kernel
theorem dX7_commonDivisor_3 : decode cX7_commonDivisor 3 = .ok (.lload_n 2, 1) := by decide +kernel
theorem dX7_commonDivisor_4 : decode cX7_commonDivisor 4 = .ok (.lstore 6, 2) := by decide +kernel
theorem dX7_commonDivisor_6 : decode cX7_commonDivisor 6 = .ok (.iconst 0, 1) := by decide +kernel
theorem dX7_commonDivisor_7 : decode cX7_commonDivisor 7 = .ok (.istore 8, 2) := by decide +kernel
theorem dX7_commonDivisor_9 : decode cX7_commonDivisor 9 = .ok (.iload 8, 2) := by decide +kernel
theorem dX7_commonDivisor_11 : decode cX7_commonDivisor 11 = .ok (.sipush 200, 3) := by decide +kernel
theorem dX7_commonDivisor_14 : decode cX7_commonDivisor 14 = .ok (.if_icmp .ge 31, 3) := by decide +kernel
theorem dX7_commonDivisor_17 : decode cX7_commonDivisor 17 = .ok (.lload 6, 2) := by decide +kernel
theorem dX7_commonDivisor_19 : decode cX7_commonDivisor 19 = .ok (.lconst 0, 1) := by decide +kernel
theorem dX7_commonDivisor_20 : decode cX7_commonDivisor 20 = .ok (.lcmp, 1) := by decide +kernel
theorem dX7_commonDivisor_21 : decode cX7_commonDivisor 21 = .ok (.ifCond .eq 24, 3) := by decide +kernel
theorem dX7_commonDivisor_24 : decode cX7_commonDivisor 24 = .ok (.lload 4, 2) := by decide +kernel
theorem dX7_commonDivisor_26 : decode cX7_commonDivisor 26 = .ok (.lload 6, 2) := by decide +kernel
theorem dX7_commonDivisor_28 : decode cX7_commonDivisor 28 = .ok (.lrem, 1) := by decide +kernel
theorem dX7_commonDivisor_29 : decode cX7_commonDivisor 29 = .ok (.lstore 9, 2) := by decide +kernel
theorem dX7_commonDivisor_31 : decode cX7_commonDivisor 31 = .ok (.lload 6, 2) := by decide +kernel
theorem dX7_commonDivisor_33 : decode cX7_commonDivisor 33 = .ok (.lstore 4, 2) := by decide +kernel
theorem dX7_commonDivisor_35 : decode cX7_commonDivisor 35 = .ok (.lload 9, 2) := by decide +kernel
theorem dX7_commonDivisor_37 : decode cX7_commonDivisor 37 = .ok (.lstore 6, 2) := by decide +kernel
theorem dX7_commonDivisor_39 : decode cX7_commonDivisor 39 = .ok (.iinc 8 1, 3) := by decide +kernel
theorem dX7_commonDivisor_42 : decode cX7_commonDivisor 42 = .ok (.goto (-33), 3) := by decide +kernel
theorem dX7_commonDivisor_45 : decode cX7_commonDivisor 45 = .ok (.lload 4, 2) := by decide +kernel
theorem dX7_commonDivisor_47 : decode cX7_commonDivisor 47 = .ok (.lreturn, 1) := by decide +kernel
