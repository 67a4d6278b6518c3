theorem dX0_init_0 : decode cX0_init 0 = .ok (.aload_n 0, 1) := by decide +kernel
theorem dX0_init_1 : decode cX0_init 1 = .ok (.invokespecial 1, 3) := by decide +kernel
theorem dX0_init_4 : decode cX0_init 4 = .ok (.return_, 1) := by decide +kernel
theorem dX0_make_0 : decode cX0_make 0 = .ok (.aload_n 0, 1) := by decide +kernel
theorem dX0_make_1 : decode cX0_make 1 = .ok (.iload_n 1, 1) := by decide +kernel
theorem dX0_make_2 : decode cX0_make 2 = .ok (.putfield 7, 3) := by decide +kernel
theorem dX0_make_5 : decode cX0_make 5 = .ok (.aload_n 0, 1) := by decide +kernel
theorem dX0_make_6 : decode cX0_make 6 = .ok (.iload_n 2, 1) := by decide +kernel
theorem dX0_make_7 : decode cX0_make 7 = .ok (.putfield 13, 3) := by decide +kernel
theorem dX0_make_10 : decode cX0_make 10 = .ok (.aload_n 0, 1) := by decide +kernel
theorem dX0_make_11 : decode cX0_make 11 = .ok (.iload_n 3, 1) := by decide +kernel
theorem dX0_make_12 : decode cX0_make 12 = .ok (.putfield 16, 3) := by decide +kernel
theorem dX0_make_15 : decode cX0_make 15 = .ok (.return_, 1) := by decide +kernel
theorem dX0_comesAt_0 : decode cX0_comesAt 0 = .ok (.iload_n 1, 1) := by decide +kernel
theorem dX0_comesAt_1 : decode cX0_comesAt 1 = .ok (.aload_n 0, 1) := by decide +kernel
theorem dX0_comesAt_2 : decode cX0_comesAt 2 = .ok (.getfield 7, 3) := by decide +kernel
theorem dX0_comesAt_5 : decode cX0_comesAt 5 = .ok (.if_icmp .ne 5, 3) := by decide +kernel
theorem dX0_comesAt_8 : decode cX0_comesAt 8 = .ok (.iconst 1, 1) := by decide +kernel
theorem dX0_comesAt_9 : decode cX0_comesAt 9 = .ok (.ireturn, 1) := by decide +kernel
theorem dX0_comesAt_10 : decode cX0_comesAt 10 = .ok (.aload_n 0, 1) := by decide +kernel
theorem dX0_comesAt_11 : decode cX0_comesAt 11 = .ok (.getfield 16, 3) := by decide +kernel
theorem dX0_comesAt_14 : decode cX0_comesAt 14 = .ok (.ifCond .le 29, 3) := by decide +kernel
theorem dX0_comesAt_17 : decode cX0_comesAt 17 = .ok (.iload_n 1, 1) := by decide +kernel
theorem dX0_comesAt_18 : decode cX0_comesAt 18 = .ok (.aload_n 0, 1) := by decide +kernel
theorem dX0_comesAt_19 : decode cX0_comesAt 19 = .ok (.getfield 7, 3) := by decide +kernel
theorem dX0_comesAt_22 : decode cX0_comesAt 22 = .ok (.if_icmp .le 21, 3) := by decide +kernel
theorem dX0_comesAt_25 : decode cX0_comesAt 25 = .ok (.iload_n 1, 1) := by decide +kernel
theorem dX0_comesAt_26 : decode cX0_comesAt 26 = .ok (.aload_n 0, 1) := by decide +kernel
theorem dX0_comesAt_27 : decode cX0_comesAt 27 = .ok (.getfield 7, 3) := by decide +kernel
theorem dX0_comesAt_30 : decode cX0_comesAt 30 = .ok (.isub, 1) := by decide +kernel
theorem dX0_comesAt_31 : decode cX0_comesAt 31 = .ok (.aload_n 0, 1) := by decide +kernel
theorem dX0_comesAt_32 : decode cX0_comesAt 32 = .ok (.getfield 16, 3) := by decide +kernel
theorem dX0_comesAt_35 : decode cX0_comesAt 35 = .ok (.irem, 1) := by decide +kernel
theorem dX0_comesAt_36 : decode cX0_comesAt 36 = .ok (.ifCond .ne 7, 3) := by decide +kernel
theorem dX0_comesAt_39 : decode cX0_comesAt 39 = .ok (.iconst 1, 1) := by decide +kernel
theorem dX0_comesAt_40 : decode cX0_comesAt 40 = .ok (.goto 4, 3) := by decide +kernel
theorem dX0_comesAt_43 : decode cX0_comesAt 43 = .ok (.iconst 0, 1) := by decide +kernel
theorem dX0_comesAt_44 : decode cX0_comesAt 44 = .ok (.ireturn, 1) := by decide +kernel
theorem dX1_init_0 : decode cX1_init 0 = .ok (.aload_n 0, 1) := by decide +kernel
theorem dX1_init_1 : decode cX1_init 1 = .ok (.invokespecial 3, 3) := by decide +kernel
theorem dX1_init_4 : decode cX1_init 4 = .ok (.return_, 1) := by decide +kernel
theorem dX1_make_0 : decode cX1_make 0 = .ok (.aload_n 0, 1) := by decide +kernel
theorem dX1_make_1 : decode cX1_make 1 = .ok (.iload_n 1, 1) := by decide +kernel
theorem dX1_make_2 : decode cX1_make 2 = .ok (.putfield 9, 3) := by decide +kernel
theorem dX1_make_5 : decode cX1_make 5 = .ok (.aload_n 0, 1) := by decide +kernel
theorem dX1_make_6 : decode cX1_make 6 = .ok (.iload_n 2, 1) := by decide +kernel
theorem dX1_make_7 : decode cX1_make 7 = .ok (.putfield 15, 3) := by decide +kernel
theorem dX1_make_10 : decode cX1_make 10 = .ok (.aload_n 0, 1) := by decide +kernel
theorem dX1_make_11 : decode cX1_make 11 = .ok (.iload_n 3, 1) := by decide +kernel
theorem dX1_make_12 : decode cX1_make 12 = .ok (.putfield 18, 3) := by decide +kernel
theorem dX1_make_15 : decode cX1_make 15 = .ok (.aload_n 0, 1) := by decide +kernel
theorem dX1_make_16 : decode cX1_make 16 = .ok (.iload_n 1, 1) := by decide +kernel
theorem dX1_make_17 : decode cX1_make 17 = .ok (.ifCond .ne 7, 3) := by decide +kernel
theorem dX1_make_20 : decode cX1_make 20 = .ok (.iload_n 2, 1) := by decide +kernel
theorem dX1_make_21 : decode cX1_make 21 = .ok (.goto 4, 3) := by decide +kernel
theorem dX1_make_24 : decode cX1_make 24 = .ok (.iconst 0, 1) := by decide +kernel
theorem dX1_make_25 : decode cX1_make 25 = .ok (.putfield 21, 3) := by decide +kernel
theorem dX1_make_28 : decode cX1_make 28 = .ok (.return_, 1) := by decide +kernel
theorem dX1_become_0 : decode cX1_become 0 = .ok (.aload_n 0, 1) := by decide +kernel
theorem dX1_become_1 : decode cX1_become 1 = .ok (.aload_n 1, 1) := by decide +kernel
theorem dX1_become_2 : decode cX1_become 2 = .ok (.getfield 9, 3) := by decide +kernel
theorem dX1_become_5 : decode cX1_become 5 = .ok (.putfield 9, 3) := by decide +kernel
theorem dX1_become_8 : decode cX1_become 8 = .ok (.aload_n 0, 1) := by decide +kernel
theorem dX1_become_9 : decode cX1_become 9 = .ok (.aload_n 1, 1) := by decide +kernel
theorem dX1_become_10 : decode cX1_become 10 = .ok (.getfield 15, 3) := by decide +kernel
theorem dX1_become_13 : decode cX1_become 13 = .ok (.putfield 15, 3) := by decide +kernel
theorem dX1_become_16 : decode cX1_become 16 = .ok (.aload_n 0, 1) := by decide +kernel
theorem dX1_become_17 : decode cX1_become 17 = .ok (.aload_n 1, 1) := by decide +kernel
theorem dX1_become_18 : decode cX1_become 18 = .ok (.getfield 18, 3) := by decide +kernel
theorem dX1_become_21 : decode cX1_become 21 = .ok (.putfield 18, 3) := by decide +kernel
theorem dX1_become_24 : decode cX1_become 24 = .ok (.aload_n 0, 1) := by decide +kernel
theorem dX1_become_25 : decode cX1_become 25 = .ok (.aload_n 1, 1) := by decide +kernel
theorem dX1_become_26 : decode cX1_become 26 = .ok (.getfield 21, 3) := by decide +kernel
theorem dX1_become_29 : decode cX1_become 29 = .ok (.putfield 21, 3) := by decide +kernel
theorem dX1_become_32 : decode cX1_become 32 = .ok (.return_, 1) := by decide +kernel
theorem dX1_countAnew_0 : decode cX1_countAnew 0 = .ok (.aload_n 0, 1) := by decide +kernel
theorem dX1_countAnew_1 : decode cX1_countAnew 1 = .ok (.iconst 0, 1) := by decide +kernel
theorem dX1_countAnew_2 : decode cX1_countAnew 2 = .ok (.putfield 24, 3) := by decide +kernel
theorem dX1_countAnew_5 : decode cX1_countAnew 5 = .ok (.aload_n 0, 1) := by decide +kernel
theorem dX1_countAnew_6 : decode cX1_countAnew 6 = .ok (.iconst 0, 1) := by decide +kernel
theorem dX1_countAnew_7 : decode cX1_countAnew 7 = .ok (.putfield 27, 3) := by decide +kernel
theorem dX1_countAnew_10 : decode cX1_countAnew 10 = .ok (.return_, 1) := by decide +kernel
theorem dX1_told_0 : decode cX1_told 0 = .ok (.iload_n 1, 1) := by decide +kernel
theorem dX1_told_1 : decode cX1_told 1 = .ok (.tableswitch 42 0 2 #[27, 32, 37], 27) := by decide +kernel
theorem dX1_told_28 : decode cX1_told 28 = .ok (.aload_n 0, 1) := by decide +kernel
theorem dX1_told_29 : decode cX1_told 29 = .ok (.getfield 9, 3) := by decide +kernel
theorem dX1_told_32 : decode cX1_told 32 = .ok (.ireturn, 1) := by decide +kernel
theorem dX1_told_33 : decode cX1_told 33 = .ok (.aload_n 0, 1) := by decide +kernel
theorem dX1_told_34 : decode cX1_told 34 = .ok (.getfield 15, 3) := by decide +kernel
theorem dX1_told_37 : decode cX1_told 37 = .ok (.ireturn, 1) := by decide +kernel
theorem dX1_told_38 : decode cX1_told 38 = .ok (.aload_n 0, 1) := by decide +kernel
theorem dX1_told_39 : decode cX1_told 39 = .ok (.getfield 18, 3) := by decide +kernel
theorem dX1_told_42 : decode cX1_told 42 = .ok (.ireturn, 1) := by decide +kernel
theorem dX1_told_43 : decode cX1_told 43 = .ok (.aload_n 0, 1) := by decide +kernel
theorem dX1_told_44 : decode cX1_told 44 = .ok (.getfield 21, 3) := by decide +kernel
theorem dX1_told_47 : decode cX1_told 47 = .ok (.ireturn, 1) := by decide +kernel
theorem dX1_change_0 : decode cX1_change 0 = .ok (.iload_n 1, 1) := by decide +kernel
theorem dX1_change_1 : decode cX1_change 1 = .ok (.tableswitch 51 0 2 #[27, 35, 43], 27) := by decide +kernel
theorem dX1_change_28 : decode cX1_change 28 = .ok (.aload_n 0, 1) := by decide +kernel
theorem dX1_change_29 : decode cX1_change 29 = .ok (.iload_n 2, 1) := by decide +kernel
theorem dX1_change_30 : decode cX1_change 30 = .ok (.putfield 9, 3) := by decide +kernel
theorem dX1_change_33 : decode cX1_change 33 = .ok (.goto 24, 3) := by decide +kernel
theorem dX1_change_36 : decode cX1_change 36 = .ok (.aload_n 0, 1) := by decide +kernel
theorem dX1_change_37 : decode cX1_change 37 = .ok (.iload_n 2, 1) := by decide +kernel
theorem dX1_change_38 : decode cX1_change 38 = .ok (.putfield 15, 3) := by decide +kernel
theorem dX1_change_41 : decode cX1_change 41 = .ok (.goto 16, 3) := by decide +kernel
theorem dX1_change_44 : decode cX1_change 44 = .ok (.aload_n 0, 1) := by decide +kernel
theorem dX1_change_45 : decode cX1_change 45 = .ok (.iload_n 2, 1) := by decide +kernel
theorem dX1_change_46 : decode cX1_change 46 = .ok (.putfield 18, 3) := by decide +kernel
theorem dX1_change_49 : decode cX1_change 49 = .ok (.goto 8, 3) := by decide +kernel
theorem dX1_change_52 : decode cX1_change 52 = .ok (.aload_n 0, 1) := by decide +kernel
theorem dX1_change_53 : decode cX1_change 53 = .ok (.iload_n 2, 1) := by decide +kernel
theorem dX1_change_54 : decode cX1_change 54 = .ok (.putfield 21, 3) := by decide +kernel
theorem dX1_change_57 : decode cX1_change 57 = .ok (.aload_n 0, 1) := by decide +kernel
theorem dX1_change_58 : decode cX1_change 58 = .ok (.aload_n 0, 1) := by decide +kernel
theorem dX1_change_59 : decode cX1_change 59 = .ok (.getfield 21, 3) := by decide +kernel
theorem dX1_change_62 : decode cX1_change 62 = .ok (.aload_n 0, 1) := by decide +kernel
theorem dX1_change_63 : decode cX1_change 63 = .ok (.getfield 15, 3) := by decide +kernel
theorem dX1_change_66 : decode cX1_change 66 = .ok (.invokestatic 31, 3) := by decide +kernel
theorem dX1_change_69 : decode cX1_change 69 = .ok (.putfield 21, 3) := by decide +kernel
theorem dX1_change_72 : decode cX1_change 72 = .ok (.return_, 1) := by decide +kernel
theorem dX1_room_0 : decode cX1_room 0 = .ok (.aload_n 0, 1) := by decide +kernel
theorem dX1_room_1 : decode cX1_room 1 = .ok (.getfield 9, 3) := by decide +kernel
theorem dX1_room_4 : decode cX1_room 4 = .ok (.ifCond .ne 10, 3) := by decide +kernel
theorem dX1_room_7 : decode cX1_room 7 = .ok (.aload_n 0, 1) := by decide +kernel
theorem dX1_room_8 : decode cX1_room 8 = .ok (.getfield 21, 3) := by decide +kernel
theorem dX1_room_11 : decode cX1_room 11 = .ok (.goto 12, 3) := by decide +kernel
theorem dX1_room_14 : decode cX1_room 14 = .ok (.aload_n 0, 1) := by decide +kernel
theorem dX1_room_15 : decode cX1_room 15 = .ok (.getfield 15, 3) := by decide +kernel
theorem dX1_room_18 : decode cX1_room 18 = .ok (.aload_n 0, 1) := by decide +kernel
theorem dX1_room_19 : decode cX1_room 19 = .ok (.getfield 21, 3) := by decide +kernel
theorem dX1_room_22 : decode cX1_room 22 = .ok (.isub, 1) := by decide +kernel
theorem dX1_room_23 : decode cX1_room 23 = .ok (.ireturn, 1) := by decide +kernel
set_option maxRecDepth 20000 in
theorem ggX1_admit_X1_room : GoodIn wsX1_admit wsX1_room := goodIn_r _ [13, 7, 6, 14, 15, 16, 17, 18, 19, 20] (by decide +kernel) (by decide +kernel)
set_option maxRecDepth 20000 in
theorem gX1_admit_X1_room : GoodIn wsX1_admit (wsV RX1 37 RX1 yX1_room wsX1_room) := goodIn_app (goodIn_of _ (by decide +kernel)) ggX1_admit_X1_room
theorem dX1_admit_0 : decode cX1_admit 0 = .ok (.aload_n 0, 1) := by decide +kernel
theorem dX1_admit_1 : decode cX1_admit 1 = .ok (.getfield 27, 3) := by decide +kernel
theorem dX1_admit_4 : decode cX1_admit 4 = .ok (.ifCond .eq 5, 3) := by decide +kernel
theorem dX1_admit_7 : decode cX1_admit 7 = .ok (.iload_n 1, 1) := by decide +kernel
theorem dX1_admit_8 : decode cX1_admit 8 = .ok (.ireturn, 1) := by decide +kernel
theorem dX1_admit_9 : decode cX1_admit 9 = .ok (.iload_n 1, 1) := by decide +kernel
theorem dX1_admit_10 : decode cX1_admit 10 = .ok (.aload_n 0, 1) := by decide +kernel
theorem dX1_admit_11 : decode cX1_admit 11 = .ok (.invokevirtual 37, 3) := by decide +kernel
theorem dX1_admit_14 : decode cX1_admit 14 = .ok (.invokestatic 31, 3) := by decide +kernel
theorem dX1_admit_17 : decode cX1_admit 17 = .ok (.istore_n 2, 1) := by decide +kernel
theorem dX1_admit_18 : decode cX1_admit 18 = .ok (.aload_n 0, 1) := by decide +kernel
theorem dX1_admit_19 : decode cX1_admit 19 = .ok (.dup, 1) := by decide +kernel
theorem dX1_admit_20 : decode cX1_admit 20 = .ok (.getfield 21, 3) := by decide +kernel
theorem dX1_admit_23 : decode cX1_admit 23 = .ok (.aload_n 0, 1) := by decide +kernel
theorem dX1_admit_24 : decode cX1_admit 24 = .ok (.getfield 9, 3) := by decide +kernel
theorem dX1_admit_27 : decode cX1_admit 27 = .ok (.ifCond .ne 8, 3) := by decide +kernel
theorem dX1_admit_30 : decode cX1_admit 30 = .ok (.iload_n 2, 1) := by decide +kernel
theorem dX1_admit_31 : decode cX1_admit 31 = .ok (.ineg, 1) := by decide +kernel
theorem dX1_admit_32 : decode cX1_admit 32 = .ok (.goto 4, 3) := by decide +kernel
theorem dX1_admit_35 : decode cX1_admit 35 = .ok (.iload_n 2, 1) := by decide +kernel
theorem dX1_admit_36 : decode cX1_admit 36 = .ok (.iadd, 1) := by decide +kernel
theorem dX1_admit_37 : decode cX1_admit 37 = .ok (.putfield 21, 3) := by decide +kernel
theorem dX1_admit_40 : decode cX1_admit 40 = .ok (.aload_n 0, 1) := by decide +kernel
theorem dX1_admit_41 : decode cX1_admit 41 = .ok (.dup, 1) := by decide +kernel
theorem dX1_admit_42 : decode cX1_admit 42 = .ok (.getfield 24, 3) := by decide +kernel
theorem dX1_admit_45 : decode cX1_admit 45 = .ok (.iload_n 1, 1) := by decide +kernel
theorem dX1_admit_46 : decode cX1_admit 46 = .ok (.iload_n 2, 1) := by decide +kernel
theorem dX1_admit_47 : decode cX1_admit 47 = .ok (.isub, 1) := by decide +kernel
theorem dX1_admit_48 : decode cX1_admit 48 = .ok (.iadd, 1) := by decide +kernel
theorem dX1_admit_49 : decode cX1_admit 49 = .ok (.putfield 24, 3) := by decide +kernel
theorem dX1_admit_52 : decode cX1_admit 52 = .ok (.iload_n 2, 1) := by decide +kernel
theorem dX1_admit_53 : decode cX1_admit 53 = .ok (.ireturn, 1) := by decide +kernel
theorem dX1_settle_0 : decode cX1_settle 0 = .ok (.aload_n 0, 1) := by decide +kernel
theorem dX1_settle_1 : decode cX1_settle 1 = .ok (.getfield 27, 3) := by decide +kernel
theorem dX1_settle_4 : decode cX1_settle 4 = .ok (.ifCond .eq 4, 3) := by decide +kernel
theorem dX1_settle_7 : decode cX1_settle 7 = .ok (.return_, 1) := by decide +kernel
theorem dX1_settle_8 : decode cX1_settle 8 = .ok (.aload_n 0, 1) := by decide +kernel
theorem dX1_settle_9 : decode cX1_settle 9 = .ok (.getfield 9, 3) := by decide +kernel
theorem dX1_settle_12 : decode cX1_settle 12 = .ok (.ifCond .ne 26, 3) := by decide +kernel
theorem dX1_settle_15 : decode cX1_settle 15 = .ok (.aload_n 0, 1) := by decide +kernel
theorem dX1_settle_16 : decode cX1_settle 16 = .ok (.aload_n 0, 1) := by decide +kernel
theorem dX1_settle_17 : decode cX1_settle 17 = .ok (.getfield 15, 3) := by decide +kernel
theorem dX1_settle_20 : decode cX1_settle 20 = .ok (.aload_n 0, 1) := by decide +kernel
theorem dX1_settle_21 : decode cX1_settle 21 = .ok (.getfield 21, 3) := by decide +kernel
theorem dX1_settle_24 : decode cX1_settle 24 = .ok (.aload_n 0, 1) := by decide +kernel
theorem dX1_settle_25 : decode cX1_settle 25 = .ok (.getfield 18, 3) := by decide +kernel
theorem dX1_settle_28 : decode cX1_settle 28 = .ok (.iadd, 1) := by decide +kernel
theorem dX1_settle_29 : decode cX1_settle 29 = .ok (.invokestatic 31, 3) := by decide +kernel
theorem dX1_settle_32 : decode cX1_settle 32 = .ok (.putfield 21, 3) := by decide +kernel
theorem dX1_settle_35 : decode cX1_settle 35 = .ok (.goto 71, 3) := by decide +kernel
theorem dX1_settle_38 : decode cX1_settle 38 = .ok (.aload_n 0, 1) := by decide +kernel
theorem dX1_settle_39 : decode cX1_settle 39 = .ok (.getfield 9, 3) := by decide +kernel
theorem dX1_settle_42 : decode cX1_settle 42 = .ok (.iconst 1, 1) := by decide +kernel
theorem dX1_settle_43 : decode cX1_settle 43 = .ok (.if_icmp .ne 23, 3) := by decide +kernel
theorem dX1_settle_46 : decode cX1_settle 46 = .ok (.aload_n 0, 1) := by decide +kernel
theorem dX1_settle_47 : decode cX1_settle 47 = .ok (.iconst 0, 1) := by decide +kernel
theorem dX1_settle_48 : decode cX1_settle 48 = .ok (.aload_n 0, 1) := by decide +kernel
theorem dX1_settle_49 : decode cX1_settle 49 = .ok (.getfield 21, 3) := by decide +kernel
theorem dX1_settle_52 : decode cX1_settle 52 = .ok (.aload_n 0, 1) := by decide +kernel
theorem dX1_settle_53 : decode cX1_settle 53 = .ok (.getfield 18, 3) := by decide +kernel
theorem dX1_settle_56 : decode cX1_settle 56 = .ok (.isub, 1) := by decide +kernel
theorem dX1_settle_57 : decode cX1_settle 57 = .ok (.invokestatic 41, 3) := by decide +kernel
theorem dX1_settle_60 : decode cX1_settle 60 = .ok (.putfield 21, 3) := by decide +kernel
theorem dX1_settle_63 : decode cX1_settle 63 = .ok (.goto 43, 3) := by decide +kernel
theorem dX1_settle_66 : decode cX1_settle 66 = .ok (.aload_n 0, 1) := by decide +kernel
theorem dX1_settle_67 : decode cX1_settle 67 = .ok (.getfield 18, 3) := by decide +kernel
theorem dX1_settle_70 : decode cX1_settle 70 = .ok (.ifCond .le 36, 3) := by decide +kernel
theorem dX1_settle_73 : decode cX1_settle 73 = .ok (.iload_n 1, 1) := by decide +kernel
theorem dX1_settle_74 : decode cX1_settle 74 = .ok (.iconst 1, 1) := by decide +kernel
theorem dX1_settle_75 : decode cX1_settle 75 = .ok (.iadd, 1) := by decide +kernel
theorem dX1_settle_76 : decode cX1_settle 76 = .ok (.aload_n 0, 1) := by decide +kernel
theorem dX1_settle_77 : decode cX1_settle 77 = .ok (.getfield 18, 3) := by decide +kernel
theorem dX1_settle_80 : decode cX1_settle 80 = .ok (.irem, 1) := by decide +kernel
theorem dX1_settle_81 : decode cX1_settle 81 = .ok (.ifCond .ne 25, 3) := by decide +kernel
theorem dX1_settle_84 : decode cX1_settle 84 = .ok (.aload_n 0, 1) := by decide +kernel
theorem dX1_settle_85 : decode cX1_settle 85 = .ok (.aload_n 0, 1) := by decide +kernel
theorem dX1_settle_86 : decode cX1_settle 86 = .ok (.getfield 9, 3) := by decide +kernel
theorem dX1_settle_89 : decode cX1_settle 89 = .ok (.iconst 2, 1) := by decide +kernel
theorem dX1_settle_90 : decode cX1_settle 90 = .ok (.if_icmp .ne 7, 3) := by decide +kernel
theorem dX1_settle_93 : decode cX1_settle 93 = .ok (.iconst 0, 1) := by decide +kernel
theorem dX1_settle_94 : decode cX1_settle 94 = .ok (.goto 9, 3) := by decide +kernel
theorem dX1_settle_97 : decode cX1_settle 97 = .ok (.aload_n 0, 1) := by decide +kernel
theorem dX1_settle_98 : decode cX1_settle 98 = .ok (.getfield 21, 3) := by decide +kernel
theorem dX1_settle_101 : decode cX1_settle 101 = .ok (.iconst 2, 1) := by decide +kernel
theorem dX1_settle_102 : decode cX1_settle 102 = .ok (.idiv, 1) := by decide +kernel
theorem dX1_settle_103 : decode cX1_settle 103 = .ok (.putfield 21, 3) := by decide +kernel
theorem dX1_settle_106 : decode cX1_settle 106 = .ok (.return_, 1) := by decide +kernel
set_option maxRecDepth 20000 in
theorem ggX2_init_X1_init : GoodIn wsX2_init wsX1_init := goodIn_r _ [14, 15, 2, 3] (by decide +kernel) (by decide +kernel)
set_option maxRecDepth 20000 in
theorem gX2_init_X1_init : GoodIn wsX2_init (wsX1_init) := ggX2_init_X1_init
set_option maxRecDepth 20000 in
theorem ggX2_init_X0_init : GoodIn wsX2_init wsX0_init := goodIn_r _ [18, 19, 2, 3] (by decide +kernel) (by decide +kernel)
set_option maxRecDepth 20000 in
theorem gX2_init_X0_init : GoodIn wsX2_init (wsX0_init) := ggX2_init_X0_init
theorem dX2_init_0 : decode cX2_init 0 = .ok (.aload_n 0, 1) := by decide +kernel
theorem dX2_init_1 : decode cX2_init 1 = .ok (.invokespecial 3, 3) := by decide +kernel
theorem dX2_init_4 : decode cX2_init 4 = .ok (.aload_n 0, 1) := by decide +kernel
theorem dX2_init_5 : decode cX2_init 5 = .ok (.iconst 4, 1) := by decide +kernel
theorem dX2_init_6 : decode cX2_init 6 = .ok (.anewarray 9, 3) := by decide +kernel
theorem dX2_init_9 : decode cX2_init 9 = .ok (.putfield 11, 3) := by decide +kernel
theorem dX2_init_12 : decode cX2_init 12 = .ok (.aload_n 0, 1) := by decide +kernel
theorem dX2_init_13 : decode cX2_init 13 = .ok (.bipush 8, 2) := by decide +kernel
theorem dX2_init_15 : decode cX2_init 15 = .ok (.anewarray 17, 3) := by decide +kernel
theorem dX2_init_18 : decode cX2_init 18 = .ok (.putfield 19, 3) := by decide +kernel
theorem dX2_init_21 : decode cX2_init 21 = .ok (.iconst 0, 1) := by decide +kernel
theorem dX2_init_22 : decode cX2_init 22 = .ok (.istore_n 1, 1) := by decide +kernel
theorem dX2_init_23 : decode cX2_init 23 = .ok (.iload_n 1, 1) := by decide +kernel
theorem dX2_init_24 : decode cX2_init 24 = .ok (.iconst 4, 1) := by decide +kernel
theorem dX2_init_25 : decode cX2_init 25 = .ok (.if_icmp .ge 22, 3) := by decide +kernel
theorem dX2_init_28 : decode cX2_init 28 = .ok (.aload_n 0, 1) := by decide +kernel
theorem dX2_init_29 : decode cX2_init 29 = .ok (.getfield 11, 3) := by decide +kernel
theorem dX2_init_32 : decode cX2_init 32 = .ok (.iload_n 1, 1) := by decide +kernel
theorem dX2_init_33 : decode cX2_init 33 = .ok (.new 9, 3) := by decide +kernel
theorem dX2_init_36 : decode cX2_init 36 = .ok (.dup, 1) := by decide +kernel
theorem dX2_init_37 : decode cX2_init 37 = .ok (.invokespecial 23, 3) := by decide +kernel
theorem dX2_init_40 : decode cX2_init 40 = .ok (.aastore, 1) := by decide +kernel
theorem dX2_init_41 : decode cX2_init 41 = .ok (.iinc 1 1, 3) := by decide +kernel
theorem dX2_init_44 : decode cX2_init 44 = .ok (.goto (-21), 3) := by decide +kernel
theorem dX2_init_47 : decode cX2_init 47 = .ok (.iconst 0, 1) := by decide +kernel
theorem dX2_init_48 : decode cX2_init 48 = .ok (.istore_n 1, 1) := by decide +kernel
theorem dX2_init_49 : decode cX2_init 49 = .ok (.iload_n 1, 1) := by decide +kernel
theorem dX2_init_50 : decode cX2_init 50 = .ok (.bipush 8, 2) := by decide +kernel
theorem dX2_init_52 : decode cX2_init 52 = .ok (.if_icmp .ge 22, 3) := by decide +kernel
theorem dX2_init_55 : decode cX2_init 55 = .ok (.aload_n 0, 1) := by decide +kernel
theorem dX2_init_56 : decode cX2_init 56 = .ok (.getfield 19, 3) := by decide +kernel
theorem dX2_init_59 : decode cX2_init 59 = .ok (.iload_n 1, 1) := by decide +kernel
theorem dX2_init_60 : decode cX2_init 60 = .ok (.new 17, 3) := by decide +kernel
theorem dX2_init_63 : decode cX2_init 63 = .ok (.dup, 1) := by decide +kernel
theorem dX2_init_64 : decode cX2_init 64 = .ok (.invokespecial 24, 3) := by decide +kernel
theorem dX2_init_67 : decode cX2_init 67 = .ok (.aastore, 1) := by decide +kernel
theorem dX2_init_68 : decode cX2_init 68 = .ok (.iinc 1 1, 3) := by decide +kernel
theorem dX2_init_71 : decode cX2_init 71 = .ok (.goto (-22), 3) := by decide +kernel
theorem dX2_init_74 : decode cX2_init 74 = .ok (.return_, 1) := by decide +kernel
theorem dX2_clear_0 : decode cX2_clear 0 = .ok (.aload_n 0, 1) := by decide +kernel
theorem dX2_clear_1 : decode cX2_clear 1 = .ok (.iconst 0, 1) := by decide +kernel
theorem dX2_clear_2 : decode cX2_clear 2 = .ok (.putfield 25, 3) := by decide +kernel
theorem dX2_clear_5 : decode cX2_clear 5 = .ok (.aload_n 0, 1) := by decide +kernel
theorem dX2_clear_6 : decode cX2_clear 6 = .ok (.iconst 0, 1) := by decide +kernel
theorem dX2_clear_7 : decode cX2_clear 7 = .ok (.putfield 29, 3) := by decide +kernel
theorem dX2_clear_10 : decode cX2_clear 10 = .ok (.aload_n 0, 1) := by decide +kernel
theorem dX2_clear_11 : decode cX2_clear 11 = .ok (.iconst 0, 1) := by decide +kernel
theorem dX2_clear_12 : decode cX2_clear 12 = .ok (.putfield 32, 3) := by decide +kernel
theorem dX2_clear_15 : decode cX2_clear 15 = .ok (.aload_n 0, 1) := by decide +kernel
theorem dX2_clear_16 : decode cX2_clear 16 = .ok (.iconst 0, 1) := by decide +kernel
theorem dX2_clear_17 : decode cX2_clear 17 = .ok (.putfield 35, 3) := by decide +kernel
theorem dX2_clear_20 : decode cX2_clear 20 = .ok (.aload_n 0, 1) := by decide +kernel
theorem dX2_clear_21 : decode cX2_clear 21 = .ok (.iconst 0, 1) := by decide +kernel
theorem dX2_clear_22 : decode cX2_clear 22 = .ok (.putfield 38, 3) := by decide +kernel
theorem dX2_clear_25 : decode cX2_clear 25 = .ok (.return_, 1) := by decide +kernel
set_option maxRecDepth 20000 in
theorem ggX2_become_X1_become : GoodIn wsX2_become wsX1_become := goodIn_r _ [15, 16, 17, 18, 19, 38, 39, 40, 41, 42, 43] (by decide +kernel) (by decide +kernel)
set_option maxRecDepth 20000 in
theorem gX2_become_X1_become : GoodIn wsX2_become (wsV RX2 41 RX1 yX1_become wsX1_become) := goodIn_app (goodIn_of _ (by decide +kernel)) ggX2_become_X1_become
set_option maxRecDepth 20000 in
theorem ggX2_become_X0_make : GoodIn wsX2_become wsX0_make := goodIn_r _ [24, 25, 26, 27, 35, 36, 37] (by decide +kernel) (by decide +kernel)
set_option maxRecDepth 20000 in
theorem gX2_become_X0_make : GoodIn wsX2_become (wsV RX2 54 RX0 yX0_make wsX0_make) := goodIn_app (goodIn_of _ (by decide +kernel)) ggX2_become_X0_make
theorem dX2_become_0 : decode cX2_become 0 = .ok (.aload_n 0, 1) := by decide +kernel
theorem dX2_become_1 : decode cX2_become 1 = .ok (.aload_n 1, 1) := by decide +kernel
theorem dX2_become_2 : decode cX2_become 2 = .ok (.getfield 25, 3) := by decide +kernel
theorem dX2_become_5 : decode cX2_become 5 = .ok (.putfield 25, 3) := by decide +kernel
theorem dX2_become_8 : decode cX2_become 8 = .ok (.iconst 0, 1) := by decide +kernel
theorem dX2_become_9 : decode cX2_become 9 = .ok (.istore_n 2, 1) := by decide +kernel
theorem dX2_become_10 : decode cX2_become 10 = .ok (.iload_n 2, 1) := by decide +kernel
theorem dX2_become_11 : decode cX2_become 11 = .ok (.aload_n 0, 1) := by decide +kernel
theorem dX2_become_12 : decode cX2_become 12 = .ok (.getfield 25, 3) := by decide +kernel
theorem dX2_become_15 : decode cX2_become 15 = .ok (.if_icmp .ge 24, 3) := by decide +kernel
theorem dX2_become_18 : decode cX2_become 18 = .ok (.aload_n 0, 1) := by decide +kernel
theorem dX2_become_19 : decode cX2_become 19 = .ok (.getfield 11, 3) := by decide +kernel
theorem dX2_become_22 : decode cX2_become 22 = .ok (.iload_n 2, 1) := by decide +kernel
theorem dX2_become_23 : decode cX2_become 23 = .ok (.aaload, 1) := by decide +kernel
theorem dX2_become_24 : decode cX2_become 24 = .ok (.aload_n 1, 1) := by decide +kernel
theorem dX2_become_25 : decode cX2_become 25 = .ok (.getfield 11, 3) := by decide +kernel
theorem dX2_become_28 : decode cX2_become 28 = .ok (.iload_n 2, 1) := by decide +kernel
theorem dX2_become_29 : decode cX2_become 29 = .ok (.aaload, 1) := by decide +kernel
theorem dX2_become_30 : decode cX2_become 30 = .ok (.invokevirtual 41, 3) := by decide +kernel
theorem dX2_become_33 : decode cX2_become 33 = .ok (.iinc 2 1, 3) := by decide +kernel
theorem dX2_become_36 : decode cX2_become 36 = .ok (.goto (-26), 3) := by decide +kernel
theorem dX2_become_39 : decode cX2_become 39 = .ok (.aload_n 0, 1) := by decide +kernel
theorem dX2_become_40 : decode cX2_become 40 = .ok (.aload_n 1, 1) := by decide +kernel
theorem dX2_become_41 : decode cX2_become 41 = .ok (.getfield 29, 3) := by decide +kernel
theorem dX2_become_44 : decode cX2_become 44 = .ok (.putfield 29, 3) := by decide +kernel
theorem dX2_become_47 : decode cX2_become 47 = .ok (.iconst 0, 1) := by decide +kernel
theorem dX2_become_48 : decode cX2_become 48 = .ok (.istore_n 2, 1) := by decide +kernel
theorem dX2_become_49 : decode cX2_become 49 = .ok (.iload_n 2, 1) := by decide +kernel
theorem dX2_become_50 : decode cX2_become 50 = .ok (.aload_n 0, 1) := by decide +kernel
theorem dX2_become_51 : decode cX2_become 51 = .ok (.getfield 29, 3) := by decide +kernel
theorem dX2_become_54 : decode cX2_become 54 = .ok (.if_icmp .ge 37, 3) := by decide +kernel
theorem dX2_become_57 : decode cX2_become 57 = .ok (.aload_n 1, 1) := by decide +kernel
theorem dX2_become_58 : decode cX2_become 58 = .ok (.getfield 19, 3) := by decide +kernel
theorem dX2_become_61 : decode cX2_become 61 = .ok (.iload_n 2, 1) := by decide +kernel
theorem dX2_become_62 : decode cX2_become 62 = .ok (.aaload, 1) := by decide +kernel
theorem dX2_become_63 : decode cX2_become 63 = .ok (.astore_n 3, 1) := by decide +kernel
theorem dX2_become_64 : decode cX2_become 64 = .ok (.aload_n 0, 1) := by decide +kernel
theorem dX2_become_65 : decode cX2_become 65 = .ok (.getfield 19, 3) := by decide +kernel
theorem dX2_become_68 : decode cX2_become 68 = .ok (.iload_n 2, 1) := by decide +kernel
theorem dX2_become_69 : decode cX2_become 69 = .ok (.aaload, 1) := by decide +kernel
theorem dX2_become_70 : decode cX2_become 70 = .ok (.aload_n 3, 1) := by decide +kernel
theorem dX2_become_71 : decode cX2_become 71 = .ok (.getfield 45, 3) := by decide +kernel
theorem dX2_become_74 : decode cX2_become 74 = .ok (.aload_n 3, 1) := by decide +kernel
theorem dX2_become_75 : decode cX2_become 75 = .ok (.getfield 48, 3) := by decide +kernel
theorem dX2_become_78 : decode cX2_become 78 = .ok (.aload_n 3, 1) := by decide +kernel
theorem dX2_become_79 : decode cX2_become 79 = .ok (.getfield 51, 3) := by decide +kernel
theorem dX2_become_82 : decode cX2_become 82 = .ok (.invokevirtual 54, 3) := by decide +kernel
theorem dX2_become_85 : decode cX2_become 85 = .ok (.iinc 2 1, 3) := by decide +kernel
theorem dX2_become_88 : decode cX2_become 88 = .ok (.goto (-39), 3) := by decide +kernel
theorem dX2_become_91 : decode cX2_become 91 = .ok (.aload_n 0, 1) := by decide +kernel
theorem dX2_become_92 : decode cX2_become 92 = .ok (.aload_n 1, 1) := by decide +kernel
theorem dX2_become_93 : decode cX2_become 93 = .ok (.getfield 32, 3) := by decide +kernel
theorem dX2_become_96 : decode cX2_become 96 = .ok (.putfield 32, 3) := by decide +kernel
theorem dX2_become_99 : decode cX2_become 99 = .ok (.aload_n 0, 1) := by decide +kernel
theorem dX2_become_100 : decode cX2_become 100 = .ok (.aload_n 1, 1) := by decide +kernel
theorem dX2_become_101 : decode cX2_become 101 = .ok (.getfield 35, 3) := by decide +kernel
theorem dX2_become_104 : decode cX2_become 104 = .ok (.putfield 35, 3) := by decide +kernel
theorem dX2_become_107 : decode cX2_become 107 = .ok (.aload_n 0, 1) := by decide +kernel
theorem dX2_become_108 : decode cX2_become 108 = .ok (.aload_n 1, 1) := by decide +kernel
theorem dX2_become_109 : decode cX2_become 109 = .ok (.getfield 38, 3) := by decide +kernel
theorem dX2_become_112 : decode cX2_become 112 = .ok (.putfield 38, 3) := by decide +kernel
theorem dX2_become_115 : decode cX2_become 115 = .ok (.return_, 1) := by decide +kernel
set_option maxRecDepth 20000 in
theorem ggX2_countAnew_X1_countAnew : GoodIn wsX2_countAnew wsX1_countAnew := goodIn_r _ [9, 10, 11, 19, 20, 21, 22, 23, 24] (by decide +kernel) (by decide +kernel)
set_option maxRecDepth 20000 in
theorem gX2_countAnew_X1_countAnew : GoodIn wsX2_countAnew (wsV RX2 58 RX1 yX1_countAnew wsX1_countAnew) := goodIn_app (goodIn_of _ (by decide +kernel)) ggX2_countAnew_X1_countAnew
theorem dX2_countAnew_0 : decode cX2_countAnew 0 = .ok (.aload_n 0, 1) := by decide +kernel
theorem dX2_countAnew_1 : decode cX2_countAnew 1 = .ok (.iconst 0, 1) := by decide +kernel
theorem dX2_countAnew_2 : decode cX2_countAnew 2 = .ok (.putfield 35, 3) := by decide +kernel
theorem dX2_countAnew_5 : decode cX2_countAnew 5 = .ok (.aload_n 0, 1) := by decide +kernel
theorem dX2_countAnew_6 : decode cX2_countAnew 6 = .ok (.iconst 0, 1) := by decide +kernel
theorem dX2_countAnew_7 : decode cX2_countAnew 7 = .ok (.putfield 38, 3) := by decide +kernel
theorem dX2_countAnew_10 : decode cX2_countAnew 10 = .ok (.iconst 0, 1) := by decide +kernel
theorem dX2_countAnew_11 : decode cX2_countAnew 11 = .ok (.istore_n 1, 1) := by decide +kernel
theorem dX2_countAnew_12 : decode cX2_countAnew 12 = .ok (.iload_n 1, 1) := by decide +kernel
theorem dX2_countAnew_13 : decode cX2_countAnew 13 = .ok (.aload_n 0, 1) := by decide +kernel
theorem dX2_countAnew_14 : decode cX2_countAnew 14 = .ok (.getfield 25, 3) := by decide +kernel
theorem dX2_countAnew_17 : decode cX2_countAnew 17 = .ok (.if_icmp .ge 18, 3) := by decide +kernel
theorem dX2_countAnew_20 : decode cX2_countAnew 20 = .ok (.aload_n 0, 1) := by decide +kernel
theorem dX2_countAnew_21 : decode cX2_countAnew 21 = .ok (.getfield 11, 3) := by decide +kernel
theorem dX2_countAnew_24 : decode cX2_countAnew 24 = .ok (.iload_n 1, 1) := by decide +kernel
theorem dX2_countAnew_25 : decode cX2_countAnew 25 = .ok (.aaload, 1) := by decide +kernel
theorem dX2_countAnew_26 : decode cX2_countAnew 26 = .ok (.invokevirtual 58, 3) := by decide +kernel
theorem dX2_countAnew_29 : decode cX2_countAnew 29 = .ok (.iinc 1 1, 3) := by decide +kernel
theorem dX2_countAnew_32 : decode cX2_countAnew 32 = .ok (.goto (-20), 3) := by decide +kernel
theorem dX2_countAnew_35 : decode cX2_countAnew 35 = .ok (.return_, 1) := by decide +kernel
set_option maxRecDepth 20000 in
theorem ggX2_addDoor_X1_make : GoodIn wsX2_addDoor wsX1_make := goodIn_r _ [7, 8, 9, 10, 11, 19, 20, 21, 22, 23, 24] (by decide +kernel) (by decide +kernel)
set_option maxRecDepth 20000 in
theorem gX2_addDoor_X1_make : GoodIn wsX2_addDoor (wsV RX2 61 RX1 yX1_make wsX1_make) := goodIn_app (goodIn_of _ (by decide +kernel)) ggX2_addDoor_X1_make
theorem dX2_addDoor_0 : decode cX2_addDoor 0 = .ok (.aload_n 0, 1) := by decide +kernel
theorem dX2_addDoor_1 : decode cX2_addDoor 1 = .ok (.getfield 25, 3) := by decide +kernel
theorem dX2_addDoor_4 : decode cX2_addDoor 4 = .ok (.iconst 4, 1) := by decide +kernel
theorem dX2_addDoor_5 : decode cX2_addDoor 5 = .ok (.if_icmp .lt 5, 3) := by decide +kernel
theorem dX2_addDoor_8 : decode cX2_addDoor 8 = .ok (.iconst 0, 1) := by decide +kernel
theorem dX2_addDoor_9 : decode cX2_addDoor 9 = .ok (.ireturn, 1) := by decide +kernel
theorem dX2_addDoor_10 : decode cX2_addDoor 10 = .ok (.aload_n 0, 1) := by decide +kernel
theorem dX2_addDoor_11 : decode cX2_addDoor 11 = .ok (.getfield 11, 3) := by decide +kernel
theorem dX2_addDoor_14 : decode cX2_addDoor 14 = .ok (.aload_n 0, 1) := by decide +kernel
theorem dX2_addDoor_15 : decode cX2_addDoor 15 = .ok (.getfield 25, 3) := by decide +kernel
theorem dX2_addDoor_18 : decode cX2_addDoor 18 = .ok (.aaload, 1) := by decide +kernel
theorem dX2_addDoor_19 : decode cX2_addDoor 19 = .ok (.iload_n 1, 1) := by decide +kernel
theorem dX2_addDoor_20 : decode cX2_addDoor 20 = .ok (.iload_n 2, 1) := by decide +kernel
theorem dX2_addDoor_21 : decode cX2_addDoor 21 = .ok (.iload_n 3, 1) := by decide +kernel
theorem dX2_addDoor_22 : decode cX2_addDoor 22 = .ok (.invokevirtual 61, 3) := by decide +kernel
theorem dX2_addDoor_25 : decode cX2_addDoor 25 = .ok (.aload_n 0, 1) := by decide +kernel
theorem dX2_addDoor_26 : decode cX2_addDoor 26 = .ok (.dup, 1) := by decide +kernel
theorem dX2_addDoor_27 : decode cX2_addDoor 27 = .ok (.getfield 25, 3) := by decide +kernel
theorem dX2_addDoor_30 : decode cX2_addDoor 30 = .ok (.iconst 1, 1) := by decide +kernel
theorem dX2_addDoor_31 : decode cX2_addDoor 31 = .ok (.iadd, 1) := by decide +kernel
theorem dX2_addDoor_32 : decode cX2_addDoor 32 = .ok (.putfield 25, 3) := by decide +kernel
theorem dX2_addDoor_35 : decode cX2_addDoor 35 = .ok (.iconst 1, 1) := by decide +kernel
theorem dX2_addDoor_36 : decode cX2_addDoor 36 = .ok (.ireturn, 1) := by decide +kernel
set_option maxRecDepth 20000 in
theorem ggX2_addCrowd_X0_make : GoodIn wsX2_addCrowd wsX0_make := goodIn_r _ [7, 8, 9, 10, 18, 19, 20] (by decide +kernel) (by decide +kernel)
set_option maxRecDepth 20000 in
theorem gX2_addCrowd_X0_make : GoodIn wsX2_addCrowd (wsV RX2 54 RX0 yX0_make wsX0_make) := goodIn_app (goodIn_of _ (by decide +kernel)) ggX2_addCrowd_X0_make
theorem dX2_addCrowd_0 : decode cX2_addCrowd 0 = .ok (.aload_n 0, 1) := by decide +kernel
theorem dX2_addCrowd_1 : decode cX2_addCrowd 1 = .ok (.getfield 29, 3) := by decide +kernel
theorem dX2_addCrowd_4 : decode cX2_addCrowd 4 = .ok (.bipush 8, 2) := by decide +kernel
theorem dX2_addCrowd_6 : decode cX2_addCrowd 6 = .ok (.if_icmp .lt 5, 3) := by decide +kernel
theorem dX2_addCrowd_9 : decode cX2_addCrowd 9 = .ok (.iconst 0, 1) := by decide +kernel
theorem dX2_addCrowd_10 : decode cX2_addCrowd 10 = .ok (.ireturn, 1) := by decide +kernel
theorem dX2_addCrowd_11 : decode cX2_addCrowd 11 = .ok (.aload_n 0, 1) := by decide +kernel
theorem dX2_addCrowd_12 : decode cX2_addCrowd 12 = .ok (.getfield 19, 3) := by decide +kernel
theorem dX2_addCrowd_15 : decode cX2_addCrowd 15 = .ok (.aload_n 0, 1) := by decide +kernel
theorem dX2_addCrowd_16 : decode cX2_addCrowd 16 = .ok (.getfield 29, 3) := by decide +kernel
theorem dX2_addCrowd_19 : decode cX2_addCrowd 19 = .ok (.aaload, 1) := by decide +kernel
theorem dX2_addCrowd_20 : decode cX2_addCrowd 20 = .ok (.iload_n 1, 1) := by decide +kernel
theorem dX2_addCrowd_21 : decode cX2_addCrowd 21 = .ok (.iload_n 2, 1) := by decide +kernel
theorem dX2_addCrowd_22 : decode cX2_addCrowd 22 = .ok (.iload_n 3, 1) := by decide +kernel
theorem dX2_addCrowd_23 : decode cX2_addCrowd 23 = .ok (.invokevirtual 54, 3) := by decide +kernel
theorem dX2_addCrowd_26 : decode cX2_addCrowd 26 = .ok (.aload_n 0, 1) := by decide +kernel
theorem dX2_addCrowd_27 : decode cX2_addCrowd 27 = .ok (.dup, 1) := by decide +kernel
theorem dX2_addCrowd_28 : decode cX2_addCrowd 28 = .ok (.getfield 29, 3) := by decide +kernel
theorem dX2_addCrowd_31 : decode cX2_addCrowd 31 = .ok (.iconst 1, 1) := by decide +kernel
theorem dX2_addCrowd_32 : decode cX2_addCrowd 32 = .ok (.iadd, 1) := by decide +kernel
theorem dX2_addCrowd_33 : decode cX2_addCrowd 33 = .ok (.putfield 29, 3) := by decide +kernel
theorem dX2_addCrowd_36 : decode cX2_addCrowd 36 = .ok (.iconst 1, 1) := by decide +kernel
theorem dX2_addCrowd_37 : decode cX2_addCrowd 37 = .ok (.ireturn, 1) := by decide +kernel
theorem dX2_exchange_0 : decode cX2_exchange 0 = .ok (.aload_n 0, 1) := by decide +kernel
theorem dX2_exchange_1 : decode cX2_exchange 1 = .ok (.getfield 11, 3) := by decide +kernel
theorem dX2_exchange_4 : decode cX2_exchange 4 = .ok (.iload_n 1, 1) := by decide +kernel
theorem dX2_exchange_5 : decode cX2_exchange 5 = .ok (.aaload, 1) := by decide +kernel
theorem dX2_exchange_6 : decode cX2_exchange 6 = .ok (.astore_n 3, 1) := by decide +kernel
theorem dX2_exchange_7 : decode cX2_exchange 7 = .ok (.aload_n 0, 1) := by decide +kernel
theorem dX2_exchange_8 : decode cX2_exchange 8 = .ok (.getfield 11, 3) := by decide +kernel
theorem dX2_exchange_11 : decode cX2_exchange 11 = .ok (.iload_n 1, 1) := by decide +kernel
theorem dX2_exchange_12 : decode cX2_exchange 12 = .ok (.aload_n 0, 1) := by decide +kernel
theorem dX2_exchange_13 : decode cX2_exchange 13 = .ok (.getfield 11, 3) := by decide +kernel
theorem dX2_exchange_16 : decode cX2_exchange 16 = .ok (.iload_n 2, 1) := by decide +kernel
theorem dX2_exchange_17 : decode cX2_exchange 17 = .ok (.aaload, 1) := by decide +kernel
theorem dX2_exchange_18 : decode cX2_exchange 18 = .ok (.aastore, 1) := by decide +kernel
theorem dX2_exchange_19 : decode cX2_exchange 19 = .ok (.aload_n 0, 1) := by decide +kernel
theorem dX2_exchange_20 : decode cX2_exchange 20 = .ok (.getfield 11, 3) := by decide +kernel
theorem dX2_exchange_23 : decode cX2_exchange 23 = .ok (.iload_n 2, 1) := by decide +kernel
theorem dX2_exchange_24 : decode cX2_exchange 24 = .ok (.aload_n 3, 1) := by decide +kernel
theorem dX2_exchange_25 : decode cX2_exchange 25 = .ok (.aastore, 1) := by decide +kernel
theorem dX2_exchange_26 : decode cX2_exchange 26 = .ok (.return_, 1) := by decide +kernel
set_option maxRecDepth 20000 in
theorem ggX2_comers_X0_comesAt : GoodIn wsX2_comers wsX0_comesAt := goodIn_r _ [9, 10, 11, 19, 20, 21] (by decide +kernel) (by decide +kernel)
set_option maxRecDepth 20000 in
theorem gX2_comers_X0_comesAt : GoodIn wsX2_comers (wsV RX2 62 RX0 yX0_comesAt wsX0_comesAt) := goodIn_app (goodIn_of _ (by decide +kernel)) ggX2_comers_X0_comesAt
theorem dX2_comers_0 : decode cX2_comers 0 = .ok (.iconst 0, 1) := by decide +kernel
theorem dX2_comers_1 : decode cX2_comers 1 = .ok (.istore_n 1, 1) := by decide +kernel
theorem dX2_comers_2 : decode cX2_comers 2 = .ok (.iconst 0, 1) := by decide +kernel
theorem dX2_comers_3 : decode cX2_comers 3 = .ok (.istore_n 2, 1) := by decide +kernel
theorem dX2_comers_4 : decode cX2_comers 4 = .ok (.iload_n 2, 1) := by decide +kernel
theorem dX2_comers_5 : decode cX2_comers 5 = .ok (.aload_n 0, 1) := by decide +kernel
theorem dX2_comers_6 : decode cX2_comers 6 = .ok (.getfield 29, 3) := by decide +kernel
theorem dX2_comers_9 : decode cX2_comers 9 = .ok (.if_icmp .ge 41, 3) := by decide +kernel
theorem dX2_comers_12 : decode cX2_comers 12 = .ok (.iload_n 1, 1) := by decide +kernel
theorem dX2_comers_13 : decode cX2_comers 13 = .ok (.aload_n 0, 1) := by decide +kernel
theorem dX2_comers_14 : decode cX2_comers 14 = .ok (.getfield 19, 3) := by decide +kernel
theorem dX2_comers_17 : decode cX2_comers 17 = .ok (.iload_n 2, 1) := by decide +kernel
theorem dX2_comers_18 : decode cX2_comers 18 = .ok (.aaload, 1) := by decide +kernel
theorem dX2_comers_19 : decode cX2_comers 19 = .ok (.aload_n 0, 1) := by decide +kernel
theorem dX2_comers_20 : decode cX2_comers 20 = .ok (.getfield 32, 3) := by decide +kernel
theorem dX2_comers_23 : decode cX2_comers 23 = .ok (.invokevirtual 62, 3) := by decide +kernel
theorem dX2_comers_26 : decode cX2_comers 26 = .ok (.ifCond .eq 15, 3) := by decide +kernel
theorem dX2_comers_29 : decode cX2_comers 29 = .ok (.aload_n 0, 1) := by decide +kernel
theorem dX2_comers_30 : decode cX2_comers 30 = .ok (.getfield 19, 3) := by decide +kernel
theorem dX2_comers_33 : decode cX2_comers 33 = .ok (.iload_n 2, 1) := by decide +kernel
theorem dX2_comers_34 : decode cX2_comers 34 = .ok (.aaload, 1) := by decide +kernel
theorem dX2_comers_35 : decode cX2_comers 35 = .ok (.getfield 48, 3) := by decide +kernel
theorem dX2_comers_38 : decode cX2_comers 38 = .ok (.goto 4, 3) := by decide +kernel
theorem dX2_comers_41 : decode cX2_comers 41 = .ok (.iconst 0, 1) := by decide +kernel
theorem dX2_comers_42 : decode cX2_comers 42 = .ok (.iadd, 1) := by decide +kernel
theorem dX2_comers_43 : decode cX2_comers 43 = .ok (.istore_n 1, 1) := by decide +kernel
theorem dX2_comers_44 : decode cX2_comers 44 = .ok (.iinc 2 1, 3) := by decide +kernel
theorem dX2_comers_47 : decode cX2_comers 47 = .ok (.goto (-43), 3) := by decide +kernel
theorem dX2_comers_50 : decode cX2_comers 50 = .ok (.iload_n 1, 1) := by decide +kernel
theorem dX2_comers_51 : decode cX2_comers 51 = .ok (.ireturn, 1) := by decide +kernel
set_option maxRecDepth 20000 in
theorem ggX2_letters_X1_room : GoodIn wsX2_letters wsX1_room := goodIn_r _ [7, 8, 9, 10, 18, 19, 20, 21, 22, 23] (by decide +kernel) (by decide +kernel)
set_option maxRecDepth 20000 in
theorem gX2_letters_X1_room : GoodIn wsX2_letters (wsV RX2 66 RX1 yX1_room wsX1_room) := goodIn_app (goodIn_of _ (by decide +kernel)) ggX2_letters_X1_room
theorem dX2_letters_0 : decode cX2_letters 0 = .ok (.iconst 0, 1) := by decide +kernel
theorem dX2_letters_1 : decode cX2_letters 1 = .ok (.istore_n 1, 1) := by decide +kernel
theorem dX2_letters_2 : decode cX2_letters 2 = .ok (.iconst 0, 1) := by decide +kernel
theorem dX2_letters_3 : decode cX2_letters 3 = .ok (.istore_n 2, 1) := by decide +kernel
theorem dX2_letters_4 : decode cX2_letters 4 = .ok (.iload_n 2, 1) := by decide +kernel
theorem dX2_letters_5 : decode cX2_letters 5 = .ok (.aload_n 0, 1) := by decide +kernel
theorem dX2_letters_6 : decode cX2_letters 6 = .ok (.getfield 25, 3) := by decide +kernel
theorem dX2_letters_9 : decode cX2_letters 9 = .ok (.if_icmp .ge 31, 3) := by decide +kernel
theorem dX2_letters_12 : decode cX2_letters 12 = .ok (.iload_n 1, 1) := by decide +kernel
theorem dX2_letters_13 : decode cX2_letters 13 = .ok (.aload_n 0, 1) := by decide +kernel
theorem dX2_letters_14 : decode cX2_letters 14 = .ok (.getfield 11, 3) := by decide +kernel
theorem dX2_letters_17 : decode cX2_letters 17 = .ok (.iload_n 2, 1) := by decide +kernel
theorem dX2_letters_18 : decode cX2_letters 18 = .ok (.aaload, 1) := by decide +kernel
theorem dX2_letters_19 : decode cX2_letters 19 = .ok (.invokevirtual 66, 3) := by decide +kernel
theorem dX2_letters_22 : decode cX2_letters 22 = .ok (.ifCond .le 9, 3) := by decide +kernel
theorem dX2_letters_25 : decode cX2_letters 25 = .ok (.iconst 1, 1) := by decide +kernel
theorem dX2_letters_26 : decode cX2_letters 26 = .ok (.iload_n 2, 1) := by decide +kernel
theorem dX2_letters_27 : decode cX2_letters 27 = .ok (.ishl, 1) := by decide +kernel
theorem dX2_letters_28 : decode cX2_letters 28 = .ok (.goto 4, 3) := by decide +kernel
theorem dX2_letters_31 : decode cX2_letters 31 = .ok (.iconst 0, 1) := by decide +kernel
theorem dX2_letters_32 : decode cX2_letters 32 = .ok (.ior, 1) := by decide +kernel
theorem dX2_letters_33 : decode cX2_letters 33 = .ok (.istore_n 1, 1) := by decide +kernel
theorem dX2_letters_34 : decode cX2_letters 34 = .ok (.iinc 2 1, 3) := by decide +kernel
theorem dX2_letters_37 : decode cX2_letters 37 = .ok (.goto (-33), 3) := by decide +kernel
theorem dX2_letters_40 : decode cX2_letters 40 = .ok (.iload_n 1, 1) := by decide +kernel
theorem dX2_letters_41 : decode cX2_letters 41 = .ok (.ireturn, 1) := by decide +kernel
set_option maxRecDepth 20000 in
theorem ggX2_firstShut_X1_room : GoodIn wsX2_firstShut wsX1_room := goodIn_r _ [7, 8, 9, 10, 18, 19, 20, 21, 22, 23] (by decide +kernel) (by decide +kernel)
set_option maxRecDepth 20000 in
theorem gX2_firstShut_X1_room : GoodIn wsX2_firstShut (wsV RX2 66 RX1 yX1_room wsX1_room) := goodIn_app (goodIn_of _ (by decide +kernel)) ggX2_firstShut_X1_room
theorem dX2_firstShut_0 : decode cX2_firstShut 0 = .ok (.iconst 0, 1) := by decide +kernel
theorem dX2_firstShut_1 : decode cX2_firstShut 1 = .ok (.istore_n 1, 1) := by decide +kernel
theorem dX2_firstShut_2 : decode cX2_firstShut 2 = .ok (.iload_n 1, 1) := by decide +kernel
theorem dX2_firstShut_3 : decode cX2_firstShut 3 = .ok (.aload_n 0, 1) := by decide +kernel
theorem dX2_firstShut_4 : decode cX2_firstShut 4 = .ok (.getfield 25, 3) := by decide +kernel
theorem dX2_firstShut_7 : decode cX2_firstShut 7 = .ok (.if_icmp .ge 23, 3) := by decide +kernel
theorem dX2_firstShut_10 : decode cX2_firstShut 10 = .ok (.aload_n 0, 1) := by decide +kernel
theorem dX2_firstShut_11 : decode cX2_firstShut 11 = .ok (.getfield 11, 3) := by decide +kernel
theorem dX2_firstShut_14 : decode cX2_firstShut 14 = .ok (.iload_n 1, 1) := by decide +kernel
theorem dX2_firstShut_15 : decode cX2_firstShut 15 = .ok (.aaload, 1) := by decide +kernel
theorem dX2_firstShut_16 : decode cX2_firstShut 16 = .ok (.invokevirtual 66, 3) := by decide +kernel
theorem dX2_firstShut_19 : decode cX2_firstShut 19 = .ok (.ifCond .ne 5, 3) := by decide +kernel
theorem dX2_firstShut_22 : decode cX2_firstShut 22 = .ok (.iload_n 1, 1) := by decide +kernel
theorem dX2_firstShut_23 : decode cX2_firstShut 23 = .ok (.ireturn, 1) := by decide +kernel
theorem dX2_firstShut_24 : decode cX2_firstShut 24 = .ok (.iinc 1 1, 3) := by decide +kernel
theorem dX2_firstShut_27 : decode cX2_firstShut 27 = .ok (.goto (-25), 3) := by decide +kernel
theorem dX2_firstShut_30 : decode cX2_firstShut 30 = .ok (.bipush (-4), 2) := by decide +kernel
theorem dX2_firstShut_32 : decode cX2_firstShut 32 = .ok (.ireturn, 1) := by decide +kernel
set_option maxRecDepth 20000 in
theorem ggX2_admit_X1_admit : GoodIn wsX2_admit wsX1_admit := goodIn_r _ [14, 15, 16, 6, 7, 8, 17, 18, 19, 20, 21, 22, 13, 23, 24, 32, 33, 34, 35, 36, 37] (by decide +kernel) (by decide +kernel)
set_option maxRecDepth 20000 in
theorem gX2_admit_X1_admit : GoodIn wsX2_admit (wsV RX2 70 RX1 yX1_admit wsX1_admit) := goodIn_app (goodIn_of _ (by decide +kernel)) ggX2_admit_X1_admit
theorem dX2_admit_0 : decode cX2_admit 0 = .ok (.iload_n 1, 1) := by decide +kernel
theorem dX2_admit_1 : decode cX2_admit 1 = .ok (.istore_n 2, 1) := by decide +kernel
theorem dX2_admit_2 : decode cX2_admit 2 = .ok (.iconst 0, 1) := by decide +kernel
theorem dX2_admit_3 : decode cX2_admit 3 = .ok (.istore_n 3, 1) := by decide +kernel
theorem dX2_admit_4 : decode cX2_admit 4 = .ok (.iload_n 3, 1) := by decide +kernel
theorem dX2_admit_5 : decode cX2_admit 5 = .ok (.aload_n 0, 1) := by decide +kernel
theorem dX2_admit_6 : decode cX2_admit 6 = .ok (.getfield 25, 3) := by decide +kernel
theorem dX2_admit_9 : decode cX2_admit 9 = .ok (.if_icmp .ge 20, 3) := by decide +kernel
theorem dX2_admit_12 : decode cX2_admit 12 = .ok (.aload_n 0, 1) := by decide +kernel
theorem dX2_admit_13 : decode cX2_admit 13 = .ok (.getfield 11, 3) := by decide +kernel
theorem dX2_admit_16 : decode cX2_admit 16 = .ok (.iload_n 3, 1) := by decide +kernel
theorem dX2_admit_17 : decode cX2_admit 17 = .ok (.aaload, 1) := by decide +kernel
theorem dX2_admit_18 : decode cX2_admit 18 = .ok (.iload_n 2, 1) := by decide +kernel
theorem dX2_admit_19 : decode cX2_admit 19 = .ok (.invokevirtual 70, 3) := by decide +kernel
theorem dX2_admit_22 : decode cX2_admit 22 = .ok (.istore_n 2, 1) := by decide +kernel
theorem dX2_admit_23 : decode cX2_admit 23 = .ok (.iinc 3 1, 3) := by decide +kernel
theorem dX2_admit_26 : decode cX2_admit 26 = .ok (.goto (-22), 3) := by decide +kernel
theorem dX2_admit_29 : decode cX2_admit 29 = .ok (.aload_n 0, 1) := by decide +kernel
theorem dX2_admit_30 : decode cX2_admit 30 = .ok (.ldc 74, 2) := by decide +kernel
theorem dX2_admit_32 : decode cX2_admit 32 = .ok (.aload_n 0, 1) := by decide +kernel
theorem dX2_admit_33 : decode cX2_admit 33 = .ok (.getfield 35, 3) := by decide +kernel
theorem dX2_admit_36 : decode cX2_admit 36 = .ok (.iload_n 2, 1) := by decide +kernel
theorem dX2_admit_37 : decode cX2_admit 37 = .ok (.iadd, 1) := by decide +kernel
theorem dX2_admit_38 : decode cX2_admit 38 = .ok (.invokestatic 75, 3) := by decide +kernel
theorem dX2_admit_41 : decode cX2_admit 41 = .ok (.putfield 35, 3) := by decide +kernel
theorem dX2_admit_44 : decode cX2_admit 44 = .ok (.aload_n 0, 1) := by decide +kernel
theorem dX2_admit_45 : decode cX2_admit 45 = .ok (.ldc 74, 2) := by decide +kernel
theorem dX2_admit_47 : decode cX2_admit 47 = .ok (.aload_n 0, 1) := by decide +kernel
theorem dX2_admit_48 : decode cX2_admit 48 = .ok (.getfield 38, 3) := by decide +kernel
theorem dX2_admit_51 : decode cX2_admit 51 = .ok (.iload_n 1, 1) := by decide +kernel
theorem dX2_admit_52 : decode cX2_admit 52 = .ok (.iadd, 1) := by decide +kernel
theorem dX2_admit_53 : decode cX2_admit 53 = .ok (.iload_n 2, 1) := by decide +kernel
theorem dX2_admit_54 : decode cX2_admit 54 = .ok (.isub, 1) := by decide +kernel
theorem dX2_admit_55 : decode cX2_admit 55 = .ok (.invokestatic 75, 3) := by decide +kernel
theorem dX2_admit_58 : decode cX2_admit 58 = .ok (.putfield 38, 3) := by decide +kernel
theorem dX2_admit_61 : decode cX2_admit 61 = .ok (.iload_n 2, 1) := by decide +kernel
theorem dX2_admit_62 : decode cX2_admit 62 = .ok (.ireturn, 1) := by decide +kernel
set_option maxRecDepth 20000 in
theorem ggX2_tickWith_X2_admit : GoodIn wsX2_tickWith wsX2_admit := goodIn_r _ [8, 1, 2, 9, 10, 11, 12, 13, 14, 15, 16, 17, 18, 19, 20, 21, 22, 23, 24, 25, 26, 27, 28, 29, 30, 39, 40, 41, 42, 43, 44, 45, 46, 47, 48, 49, 50, 51] (by decide +kernel) (by decide +kernel)
set_option maxRecDepth 20000 in
theorem gX2_tickWith_X2_admit : GoodIn wsX2_tickWith (wsV RX2 81 RX2 yX2_admit wsX2_admit) := goodIn_app (goodIn_of _ (by decide +kernel)) ggX2_tickWith_X2_admit
set_option maxRecDepth 20000 in
theorem ggX2_tickWith_X1_settle : GoodIn wsX2_tickWith wsX1_settle := goodIn_r _ [34, 21, 24, 30, 23, 35, 22, 12, 13, 14, 36, 37, 38, 46, 47, 48, 49, 50, 51] (by decide +kernel) (by decide +kernel)
set_option maxRecDepth 20000 in
theorem gX2_tickWith_X1_settle : GoodIn wsX2_tickWith (wsV RX2 82 RX1 yX1_settle wsX1_settle) := goodIn_app (goodIn_of _ (by decide +kernel)) ggX2_tickWith_X1_settle
theorem dX2_tickWith_0 : decode cX2_tickWith 0 = .ok (.aload_n 0, 1) := by decide +kernel
theorem dX2_tickWith_1 : decode cX2_tickWith 1 = .ok (.iload_n 1, 1) := by decide +kernel
theorem dX2_tickWith_2 : decode cX2_tickWith 2 = .ok (.invokevirtual 81, 3) := by decide +kernel
theorem dX2_tickWith_5 : decode cX2_tickWith 5 = .ok (.istore_n 2, 1) := by decide +kernel
theorem dX2_tickWith_6 : decode cX2_tickWith 6 = .ok (.iconst 0, 1) := by decide +kernel
theorem dX2_tickWith_7 : decode cX2_tickWith 7 = .ok (.istore_n 3, 1) := by decide +kernel
theorem dX2_tickWith_8 : decode cX2_tickWith 8 = .ok (.iload_n 3, 1) := by decide +kernel
theorem dX2_tickWith_9 : decode cX2_tickWith 9 = .ok (.aload_n 0, 1) := by decide +kernel
theorem dX2_tickWith_10 : decode cX2_tickWith 10 = .ok (.getfield 25, 3) := by decide +kernel
theorem dX2_tickWith_13 : decode cX2_tickWith 13 = .ok (.if_icmp .ge 22, 3) := by decide +kernel
theorem dX2_tickWith_16 : decode cX2_tickWith 16 = .ok (.aload_n 0, 1) := by decide +kernel
theorem dX2_tickWith_17 : decode cX2_tickWith 17 = .ok (.getfield 11, 3) := by decide +kernel
theorem dX2_tickWith_20 : decode cX2_tickWith 20 = .ok (.iload_n 3, 1) := by decide +kernel
theorem dX2_tickWith_21 : decode cX2_tickWith 21 = .ok (.aaload, 1) := by decide +kernel
theorem dX2_tickWith_22 : decode cX2_tickWith 22 = .ok (.aload_n 0, 1) := by decide +kernel
theorem dX2_tickWith_23 : decode cX2_tickWith 23 = .ok (.getfield 32, 3) := by decide +kernel
theorem dX2_tickWith_26 : decode cX2_tickWith 26 = .ok (.invokevirtual 82, 3) := by decide +kernel
theorem dX2_tickWith_29 : decode cX2_tickWith 29 = .ok (.iinc 3 1, 3) := by decide +kernel
theorem dX2_tickWith_32 : decode cX2_tickWith 32 = .ok (.goto (-24), 3) := by decide +kernel
theorem dX2_tickWith_35 : decode cX2_tickWith 35 = .ok (.aload_n 0, 1) := by decide +kernel
theorem dX2_tickWith_36 : decode cX2_tickWith 36 = .ok (.dup, 1) := by decide +kernel
theorem dX2_tickWith_37 : decode cX2_tickWith 37 = .ok (.getfield 32, 3) := by decide +kernel
theorem dX2_tickWith_40 : decode cX2_tickWith 40 = .ok (.iconst 1, 1) := by decide +kernel
theorem dX2_tickWith_41 : decode cX2_tickWith 41 = .ok (.iadd, 1) := by decide +kernel
theorem dX2_tickWith_42 : decode cX2_tickWith 42 = .ok (.putfield 32, 3) := by decide +kernel
theorem dX2_tickWith_45 : decode cX2_tickWith 45 = .ok (.iload_n 2, 1) := by decide +kernel
theorem dX2_tickWith_46 : decode cX2_tickWith 46 = .ok (.ireturn, 1) := by decide +kernel
set_option maxRecDepth 20000 in
theorem ggX2_tickOn_X2_comers : GoodIn wsX2_tickOn wsX2_comers := goodIn_r _ [5, 6, 7, 8, 9, 10, 11, 12, 13, 14, 15, 16, 57, 58, 59, 60, 61, 62, 63, 64, 65, 66] (by decide +kernel) (by decide +kernel)
set_option maxRecDepth 20000 in
theorem gX2_tickOn_X2_comers : GoodIn wsX2_tickOn (wsV RX2 86 RX2 yX2_comers wsX2_comers) := goodIn_app (goodIn_of _ (by decide +kernel)) ggX2_tickOn_X2_comers
set_option maxRecDepth 20000 in
theorem ggX2_tickOn_X2_tickWith : GoodIn wsX2_tickOn wsX2_tickWith := goodIn_r _ [20, 21, 22, 8, 23, 24, 25, 4, 26, 27, 28, 29, 30, 31, 32, 33, 34, 35, 36, 37, 38, 39, 40, 41, 42, 43, 44, 45, 46, 47, 48, 49, 50, 51, 52, 53, 54, 55, 56, 57, 58, 59, 60, 61, 62, 63, 67, 68, 69, 70, 71, 72] (by decide +kernel) (by decide +kernel)
set_option maxRecDepth 20000 in
theorem gX2_tickOn_X2_tickWith : GoodIn wsX2_tickOn (wsV RX2 89 RX2 yX2_tickWith wsX2_tickWith) := goodIn_app (goodIn_of _ (by decide +kernel)) ggX2_tickOn_X2_tickWith
theorem dX2_tickOn_0 : decode cX2_tickOn 0 = .ok (.aload_n 0, 1) := by decide +kernel
theorem dX2_tickOn_1 : decode cX2_tickOn 1 = .ok (.aload_n 0, 1) := by decide +kernel
theorem dX2_tickOn_2 : decode cX2_tickOn 2 = .ok (.invokevirtual 86, 3) := by decide +kernel
theorem dX2_tickOn_5 : decode cX2_tickOn 5 = .ok (.invokevirtual 89, 3) := by decide +kernel
theorem dX2_tickOn_8 : decode cX2_tickOn 8 = .ok (.ireturn, 1) := by decide +kernel
set_option maxRecDepth 20000 in
theorem ggX2_runOn_X2_tickOn : GoodIn wsX2_runOn wsX2_tickOn := goodIn_r _ [5, 6, 7, 8, 4, 9, 10, 11, 12, 13, 14, 15, 16, 17, 18, 19, 20, 21, 22, 23, 24, 25, 26, 27, 28, 29, 30, 31, 32, 33, 34, 35, 36, 37, 38, 39, 40, 41, 42, 43, 44, 45, 46, 47, 48, 49, 50, 51, 52, 53, 54, 55, 56, 57, 58, 59, 60, 61, 62, 63, 64, 65, 66, 67, 68, 69, 70, 71, 72, 73, 74, 75, 76] (by decide +kernel) (by decide +kernel)
set_option maxRecDepth 20000 in
theorem gX2_runOn_X2_tickOn : GoodIn wsX2_runOn (wsV RX2 92 RX2 yX2_tickOn wsX2_tickOn) := goodIn_app (goodIn_of _ (by decide +kernel)) ggX2_runOn_X2_tickOn
theorem dX2_runOn_0 : decode cX2_runOn 0 = .ok (.iconst 0, 1) := by decide +kernel
theorem dX2_runOn_1 : decode cX2_runOn 1 = .ok (.istore_n 2, 1) := by decide +kernel
theorem dX2_runOn_2 : decode cX2_runOn 2 = .ok (.iconst 0, 1) := by decide +kernel
theorem dX2_runOn_3 : decode cX2_runOn 3 = .ok (.istore_n 3, 1) := by decide +kernel
theorem dX2_runOn_4 : decode cX2_runOn 4 = .ok (.iload_n 3, 1) := by decide +kernel
theorem dX2_runOn_5 : decode cX2_runOn 5 = .ok (.iload_n 1, 1) := by decide +kernel
theorem dX2_runOn_6 : decode cX2_runOn 6 = .ok (.if_icmp .ge 16, 3) := by decide +kernel
theorem dX2_runOn_9 : decode cX2_runOn 9 = .ok (.iload_n 2, 1) := by decide +kernel
theorem dX2_runOn_10 : decode cX2_runOn 10 = .ok (.aload_n 0, 1) := by decide +kernel
theorem dX2_runOn_11 : decode cX2_runOn 11 = .ok (.invokevirtual 92, 3) := by decide +kernel
theorem dX2_runOn_14 : decode cX2_runOn 14 = .ok (.iadd, 1) := by decide +kernel
theorem dX2_runOn_15 : decode cX2_runOn 15 = .ok (.istore_n 2, 1) := by decide +kernel
theorem dX2_runOn_16 : decode cX2_runOn 16 = .ok (.iinc 3 1, 3) := by decide +kernel
theorem dX2_runOn_19 : decode cX2_runOn 19 = .ok (.goto (-15), 3) := by decide +kernel
theorem dX2_runOn_22 : decode cX2_runOn 22 = .ok (.iload_n 2, 1) := by decide +kernel
theorem dX2_runOn_23 : decode cX2_runOn 23 = .ok (.ireturn, 1) := by decide +kernel
theorem dX2_heldByAll_0 : decode cX2_heldByAll 0 = .ok (.iconst 0, 1) := by decide +kernel
theorem dX2_heldByAll_1 : decode cX2_heldByAll 1 = .ok (.istore_n 1, 1) := by decide +kernel
theorem dX2_heldByAll_2 : decode cX2_heldByAll 2 = .ok (.iconst 0, 1) := by decide +kernel
theorem dX2_heldByAll_3 : decode cX2_heldByAll 3 = .ok (.istore_n 2, 1) := by decide +kernel
theorem dX2_heldByAll_4 : decode cX2_heldByAll 4 = .ok (.iload_n 2, 1) := by decide +kernel
theorem dX2_heldByAll_5 : decode cX2_heldByAll 5 = .ok (.aload_n 0, 1) := by decide +kernel
theorem dX2_heldByAll_6 : decode cX2_heldByAll 6 = .ok (.getfield 25, 3) := by decide +kernel
theorem dX2_heldByAll_9 : decode cX2_heldByAll 9 = .ok (.if_icmp .ge 21, 3) := by decide +kernel
theorem dX2_heldByAll_12 : decode cX2_heldByAll 12 = .ok (.iload_n 1, 1) := by decide +kernel
theorem dX2_heldByAll_13 : decode cX2_heldByAll 13 = .ok (.aload_n 0, 1) := by decide +kernel
theorem dX2_heldByAll_14 : decode cX2_heldByAll 14 = .ok (.getfield 11, 3) := by decide +kernel
theorem dX2_heldByAll_17 : decode cX2_heldByAll 17 = .ok (.iload_n 2, 1) := by decide +kernel
theorem dX2_heldByAll_18 : decode cX2_heldByAll 18 = .ok (.aaload, 1) := by decide +kernel
theorem dX2_heldByAll_19 : decode cX2_heldByAll 19 = .ok (.getfield 95, 3) := by decide +kernel
theorem dX2_heldByAll_22 : decode cX2_heldByAll 22 = .ok (.iadd, 1) := by decide +kernel
theorem dX2_heldByAll_23 : decode cX2_heldByAll 23 = .ok (.istore_n 1, 1) := by decide +kernel
theorem dX2_heldByAll_24 : decode cX2_heldByAll 24 = .ok (.iinc 2 1, 3) := by decide +kernel
theorem dX2_heldByAll_27 : decode cX2_heldByAll 27 = .ok (.goto (-23), 3) := by decide +kernel
theorem dX2_heldByAll_30 : decode cX2_heldByAll 30 = .ok (.iload_n 1, 1) := by decide +kernel
theorem dX2_heldByAll_31 : decode cX2_heldByAll 31 = .ok (.ireturn, 1) := by decide +kernel
theorem dX2_depthOfAll_0 : decode cX2_depthOfAll 0 = .ok (.iconst 0, 1) := by decide +kernel
theorem dX2_depthOfAll_1 : decode cX2_depthOfAll 1 = .ok (.istore_n 1, 1) := by decide +kernel
theorem dX2_depthOfAll_2 : decode cX2_depthOfAll 2 = .ok (.iconst 0, 1) := by decide +kernel
theorem dX2_depthOfAll_3 : decode cX2_depthOfAll 3 = .ok (.istore_n 2, 1) := by decide +kernel
theorem dX2_depthOfAll_4 : decode cX2_depthOfAll 4 = .ok (.iload_n 2, 1) := by decide +kernel
theorem dX2_depthOfAll_5 : decode cX2_depthOfAll 5 = .ok (.aload_n 0, 1) := by decide +kernel
theorem dX2_depthOfAll_6 : decode cX2_depthOfAll 6 = .ok (.getfield 25, 3) := by decide +kernel
theorem dX2_depthOfAll_9 : decode cX2_depthOfAll 9 = .ok (.if_icmp .ge 21, 3) := by decide +kernel
theorem dX2_depthOfAll_12 : decode cX2_depthOfAll 12 = .ok (.iload_n 1, 1) := by decide +kernel
theorem dX2_depthOfAll_13 : decode cX2_depthOfAll 13 = .ok (.aload_n 0, 1) := by decide +kernel
theorem dX2_depthOfAll_14 : decode cX2_depthOfAll 14 = .ok (.getfield 11, 3) := by decide +kernel
theorem dX2_depthOfAll_17 : decode cX2_depthOfAll 17 = .ok (.iload_n 2, 1) := by decide +kernel
theorem dX2_depthOfAll_18 : decode cX2_depthOfAll 18 = .ok (.aaload, 1) := by decide +kernel
theorem dX2_depthOfAll_19 : decode cX2_depthOfAll 19 = .ok (.getfield 98, 3) := by decide +kernel
theorem dX2_depthOfAll_22 : decode cX2_depthOfAll 22 = .ok (.iadd, 1) := by decide +kernel
theorem dX2_depthOfAll_23 : decode cX2_depthOfAll 23 = .ok (.istore_n 1, 1) := by decide +kernel
theorem dX2_depthOfAll_24 : decode cX2_depthOfAll 24 = .ok (.iinc 2 1, 3) := by decide +kernel
theorem dX2_depthOfAll_27 : decode cX2_depthOfAll 27 = .ok (.goto (-23), 3) := by decide +kernel
theorem dX2_depthOfAll_30 : decode cX2_depthOfAll 30 = .ok (.iload_n 1, 1) := by decide +kernel
theorem dX2_depthOfAll_31 : decode cX2_depthOfAll 31 = .ok (.ireturn, 1) := by decide +kernel
theorem dX2_manyOfAll_0 : decode cX2_manyOfAll 0 = .ok (.iconst 0, 1) := by decide +kernel
theorem dX2_manyOfAll_1 : decode cX2_manyOfAll 1 = .ok (.istore_n 1, 1) := by decide +kernel
theorem dX2_manyOfAll_2 : decode cX2_manyOfAll 2 = .ok (.iconst 0, 1) := by decide +kernel
theorem dX2_manyOfAll_3 : decode cX2_manyOfAll 3 = .ok (.istore_n 2, 1) := by decide +kernel
theorem dX2_manyOfAll_4 : decode cX2_manyOfAll 4 = .ok (.iload_n 2, 1) := by decide +kernel
theorem dX2_manyOfAll_5 : decode cX2_manyOfAll 5 = .ok (.aload_n 0, 1) := by decide +kernel
theorem dX2_manyOfAll_6 : decode cX2_manyOfAll 6 = .ok (.getfield 29, 3) := by decide +kernel
theorem dX2_manyOfAll_9 : decode cX2_manyOfAll 9 = .ok (.if_icmp .ge 21, 3) := by decide +kernel
theorem dX2_manyOfAll_12 : decode cX2_manyOfAll 12 = .ok (.iload_n 1, 1) := by decide +kernel
theorem dX2_manyOfAll_13 : decode cX2_manyOfAll 13 = .ok (.aload_n 0, 1) := by decide +kernel
theorem dX2_manyOfAll_14 : decode cX2_manyOfAll 14 = .ok (.getfield 19, 3) := by decide +kernel
theorem dX2_manyOfAll_17 : decode cX2_manyOfAll 17 = .ok (.iload_n 2, 1) := by decide +kernel
theorem dX2_manyOfAll_18 : decode cX2_manyOfAll 18 = .ok (.aaload, 1) := by decide +kernel
theorem dX2_manyOfAll_19 : decode cX2_manyOfAll 19 = .ok (.getfield 48, 3) := by decide +kernel
theorem dX2_manyOfAll_22 : decode cX2_manyOfAll 22 = .ok (.iadd, 1) := by decide +kernel
theorem dX2_manyOfAll_23 : decode cX2_manyOfAll 23 = .ok (.istore_n 1, 1) := by decide +kernel
theorem dX2_manyOfAll_24 : decode cX2_manyOfAll 24 = .ok (.iinc 2 1, 3) := by decide +kernel
theorem dX2_manyOfAll_27 : decode cX2_manyOfAll 27 = .ok (.goto (-23), 3) := by decide +kernel
theorem dX2_manyOfAll_30 : decode cX2_manyOfAll 30 = .ok (.iload_n 1, 1) := by decide +kernel
theorem dX2_manyOfAll_31 : decode cX2_manyOfAll 31 = .ok (.ireturn, 1) := by decide +kernel
theorem dX3_init_0 : decode cX3_init 0 = .ok (.aload_n 0, 1) := by decide +kernel
theorem dX3_init_1 : decode cX3_init 1 = .ok (.invokespecial 3, 3) := by decide +kernel
theorem dX3_init_4 : decode cX3_init 4 = .ok (.aload_n 0, 1) := by decide +kernel
theorem dX3_init_5 : decode cX3_init 5 = .ok (.bipush 6, 2) := by decide +kernel
theorem dX3_init_7 : decode cX3_init 7 = .ok (.newarray .int, 2) := by decide +kernel
theorem dX3_init_9 : decode cX3_init 9 = .ok (.putfield 9, 3) := by decide +kernel
theorem dX3_init_12 : decode cX3_init 12 = .ok (.aload_n 0, 1) := by decide +kernel
theorem dX3_init_13 : decode cX3_init 13 = .ok (.bipush 6, 2) := by decide +kernel
theorem dX3_init_15 : decode cX3_init 15 = .ok (.newarray .int, 2) := by decide +kernel
theorem dX3_init_17 : decode cX3_init 17 = .ok (.putfield 15, 3) := by decide +kernel
theorem dX3_init_20 : decode cX3_init 20 = .ok (.return_, 1) := by decide +kernel
theorem dX3_add_0 : decode cX3_add 0 = .ok (.aload_n 0, 1) := by decide +kernel
theorem dX3_add_1 : decode cX3_add 1 = .ok (.getfield 18, 3) := by decide +kernel
theorem dX3_add_4 : decode cX3_add 4 = .ok (.bipush 6, 2) := by decide +kernel
theorem dX3_add_6 : decode cX3_add 6 = .ok (.if_icmp .lt 5, 3) := by decide +kernel
theorem dX3_add_9 : decode cX3_add 9 = .ok (.iconst 0, 1) := by decide +kernel
theorem dX3_add_10 : decode cX3_add 10 = .ok (.ireturn, 1) := by decide +kernel
theorem dX3_add_11 : decode cX3_add 11 = .ok (.aload_n 0, 1) := by decide +kernel
theorem dX3_add_12 : decode cX3_add 12 = .ok (.getfield 9, 3) := by decide +kernel
theorem dX3_add_15 : decode cX3_add 15 = .ok (.aload_n 0, 1) := by decide +kernel
theorem dX3_add_16 : decode cX3_add 16 = .ok (.getfield 18, 3) := by decide +kernel
theorem dX3_add_19 : decode cX3_add 19 = .ok (.iload_n 1, 1) := by decide +kernel
theorem dX3_add_20 : decode cX3_add 20 = .ok (.iastore, 1) := by decide +kernel
theorem dX3_add_21 : decode cX3_add 21 = .ok (.aload_n 0, 1) := by decide +kernel
theorem dX3_add_22 : decode cX3_add 22 = .ok (.getfield 15, 3) := by decide +kernel
theorem dX3_add_25 : decode cX3_add 25 = .ok (.aload_n 0, 1) := by decide +kernel
theorem dX3_add_26 : decode cX3_add 26 = .ok (.getfield 18, 3) := by decide +kernel
theorem dX3_add_29 : decode cX3_add 29 = .ok (.iload_n 2, 1) := by decide +kernel
theorem dX3_add_30 : decode cX3_add 30 = .ok (.iastore, 1) := by decide +kernel
theorem dX3_add_31 : decode cX3_add 31 = .ok (.aload_n 0, 1) := by decide +kernel
theorem dX3_add_32 : decode cX3_add 32 = .ok (.dup, 1) := by decide +kernel
theorem dX3_add_33 : decode cX3_add 33 = .ok (.getfield 18, 3) := by decide +kernel
theorem dX3_add_36 : decode cX3_add 36 = .ok (.iconst 1, 1) := by decide +kernel
theorem dX3_add_37 : decode cX3_add 37 = .ok (.iadd, 1) := by decide +kernel
theorem dX3_add_38 : decode cX3_add 38 = .ok (.putfield 18, 3) := by decide +kernel
theorem dX3_add_41 : decode cX3_add 41 = .ok (.iconst 1, 1) := by decide +kernel
theorem dX3_add_42 : decode cX3_add 42 = .ok (.ireturn, 1) := by decide +kernel
theorem dX3_agreesWith_0 : decode cX3_agreesWith 0 = .ok (.iconst 0, 1) := by decide +kernel
theorem dX3_agreesWith_1 : decode cX3_agreesWith 1 = .ok (.istore_n 2, 1) := by decide +kernel
theorem dX3_agreesWith_2 : decode cX3_agreesWith 2 = .ok (.iload_n 2, 1) := by decide +kernel
theorem dX3_agreesWith_3 : decode cX3_agreesWith 3 = .ok (.aload_n 0, 1) := by decide +kernel
theorem dX3_agreesWith_4 : decode cX3_agreesWith 4 = .ok (.getfield 18, 3) := by decide +kernel
theorem dX3_agreesWith_7 : decode cX3_agreesWith 7 = .ok (.if_icmp .ge 39, 3) := by decide +kernel
theorem dX3_agreesWith_10 : decode cX3_agreesWith 10 = .ok (.aload_n 0, 1) := by decide +kernel
theorem dX3_agreesWith_11 : decode cX3_agreesWith 11 = .ok (.getfield 9, 3) := by decide +kernel
theorem dX3_agreesWith_14 : decode cX3_agreesWith 14 = .ok (.iload_n 2, 1) := by decide +kernel
theorem dX3_agreesWith_15 : decode cX3_agreesWith 15 = .ok (.iaload, 1) := by decide +kernel
theorem dX3_agreesWith_16 : decode cX3_agreesWith 16 = .ok (.aload_n 1, 1) := by decide +kernel
theorem dX3_agreesWith_17 : decode cX3_agreesWith 17 = .ok (.arraylength, 1) := by decide +kernel
theorem dX3_agreesWith_18 : decode cX3_agreesWith 18 = .ok (.if_icmp .ge 20, 3) := by decide +kernel
theorem dX3_agreesWith_21 : decode cX3_agreesWith 21 = .ok (.aload_n 1, 1) := by decide +kernel
theorem dX3_agreesWith_22 : decode cX3_agreesWith 22 = .ok (.aload_n 0, 1) := by decide +kernel
theorem dX3_agreesWith_23 : decode cX3_agreesWith 23 = .ok (.getfield 9, 3) := by decide +kernel
theorem dX3_agreesWith_26 : decode cX3_agreesWith 26 = .ok (.iload_n 2, 1) := by decide +kernel
theorem dX3_agreesWith_27 : decode cX3_agreesWith 27 = .ok (.iaload, 1) := by decide +kernel
theorem dX3_agreesWith_28 : decode cX3_agreesWith 28 = .ok (.iaload, 1) := by decide +kernel
theorem dX3_agreesWith_29 : decode cX3_agreesWith 29 = .ok (.aload_n 0, 1) := by decide +kernel
theorem dX3_agreesWith_30 : decode cX3_agreesWith 30 = .ok (.getfield 15, 3) := by decide +kernel
theorem dX3_agreesWith_33 : decode cX3_agreesWith 33 = .ok (.iload_n 2, 1) := by decide +kernel
theorem dX3_agreesWith_34 : decode cX3_agreesWith 34 = .ok (.iaload, 1) := by decide +kernel
theorem dX3_agreesWith_35 : decode cX3_agreesWith 35 = .ok (.if_icmp .eq 5, 3) := by decide +kernel
theorem dX3_agreesWith_38 : decode cX3_agreesWith 38 = .ok (.iconst 0, 1) := by decide +kernel
theorem dX3_agreesWith_39 : decode cX3_agreesWith 39 = .ok (.ireturn, 1) := by decide +kernel
theorem dX3_agreesWith_40 : decode cX3_agreesWith 40 = .ok (.iinc 2 1, 3) := by decide +kernel
theorem dX3_agreesWith_43 : decode cX3_agreesWith 43 = .ok (.goto (-41), 3) := by decide +kernel
theorem dX3_agreesWith_46 : decode cX3_agreesWith 46 = .ok (.iconst 1, 1) := by decide +kernel
theorem dX3_agreesWith_47 : decode cX3_agreesWith 47 = .ok (.ireturn, 1) := by decide +kernel
theorem dX4_init_0 : decode cX4_init 0 = .ok (.aload_n 0, 1) := by decide +kernel
theorem dX4_init_1 : decode cX4_init 1 = .ok (.invokespecial 3, 3) := by decide +kernel
theorem dX4_init_4 : decode cX4_init 4 = .ok (.aload_n 0, 1) := by decide +kernel
theorem dX4_init_5 : decode cX4_init 5 = .ok (.bipush 40, 2) := by decide +kernel
theorem dX4_init_7 : decode cX4_init 7 = .ok (.newarray .int, 2) := by decide +kernel
theorem dX4_init_9 : decode cX4_init 9 = .ok (.putfield 9, 3) := by decide +kernel
theorem dX4_init_12 : decode cX4_init 12 = .ok (.return_, 1) := by decide +kernel
set_option maxRecDepth 20000 in
theorem ggX4_renew_J7_fill_53178 : GoodIn wsX4_renew wsJ7_fill_53178 := goodIn_r _ [8] (by decide +kernel) (by decide +kernel)
set_option maxRecDepth 20000 in
theorem gX4_renew_J7_fill_53178 : GoodIn wsX4_renew (va_wsS RX4 26 yJ7_fill_53178 wsJ7_fill_53178) := goodIn_app (goodIn_of _ (by decide +kernel)) ggX4_renew_J7_fill_53178
theorem dX4_renew_0 : decode cX4_renew 0 = .ok (.aload_n 0, 1) := by decide +kernel
theorem dX4_renew_1 : decode cX4_renew 1 = .ok (.iconst 1, 1) := by decide +kernel
theorem dX4_renew_2 : decode cX4_renew 2 = .ok (.putfield 15, 3) := by decide +kernel
theorem dX4_renew_5 : decode cX4_renew 5 = .ok (.aload_n 0, 1) := by decide +kernel
theorem dX4_renew_6 : decode cX4_renew 6 = .ok (.iload_n 1, 1) := by decide +kernel
theorem dX4_renew_7 : decode cX4_renew 7 = .ok (.putfield 19, 3) := by decide +kernel
theorem dX4_renew_10 : decode cX4_renew 10 = .ok (.aload_n 0, 1) := by decide +kernel
theorem dX4_renew_11 : decode cX4_renew 11 = .ok (.iload_n 2, 1) := by decide +kernel
theorem dX4_renew_12 : decode cX4_renew 12 = .ok (.putfield 23, 3) := by decide +kernel
theorem dX4_renew_15 : decode cX4_renew 15 = .ok (.aload_n 0, 1) := by decide +kernel
theorem dX4_renew_16 : decode cX4_renew 16 = .ok (.getfield 9, 3) := by decide +kernel
theorem dX4_renew_19 : decode cX4_renew 19 = .ok (.iconst 0, 1) := by decide +kernel
theorem dX4_renew_20 : decode cX4_renew 20 = .ok (.invokestatic 26, 3) := by decide +kernel
theorem dX4_renew_23 : decode cX4_renew 23 = .ok (.return_, 1) := by decide +kernel
theorem dX4_put_0 : decode cX4_put 0 = .ok (.aload_n 0, 1) := by decide +kernel
theorem dX4_put_1 : decode cX4_put 1 = .ok (.getfield 19, 3) := by decide +kernel
theorem dX4_put_4 : decode cX4_put 4 = .ok (.ifCond .ne 14, 3) := by decide +kernel
theorem dX4_put_7 : decode cX4_put 7 = .ok (.aload_n 0, 1) := by decide +kernel
theorem dX4_put_8 : decode cX4_put 8 = .ok (.getfield 9, 3) := by decide +kernel
theorem dX4_put_11 : decode cX4_put 11 = .ok (.iload_n 1, 1) := by decide +kernel
theorem dX4_put_12 : decode cX4_put 12 = .ok (.iload_n 2, 1) := by decide +kernel
theorem dX4_put_13 : decode cX4_put 13 = .ok (.i2b, 1) := by decide +kernel
theorem dX4_put_14 : decode cX4_put 14 = .ok (.iastore, 1) := by decide +kernel
theorem dX4_put_15 : decode cX4_put 15 = .ok (.goto 29, 3) := by decide +kernel
theorem dX4_put_18 : decode cX4_put 18 = .ok (.aload_n 0, 1) := by decide +kernel
theorem dX4_put_19 : decode cX4_put 19 = .ok (.getfield 19, 3) := by decide +kernel
theorem dX4_put_22 : decode cX4_put 22 = .ok (.iconst 1, 1) := by decide +kernel
theorem dX4_put_23 : decode cX4_put 23 = .ok (.if_icmp .ne 14, 3) := by decide +kernel
theorem dX4_put_26 : decode cX4_put 26 = .ok (.aload_n 0, 1) := by decide +kernel
theorem dX4_put_27 : decode cX4_put 27 = .ok (.getfield 9, 3) := by decide +kernel
theorem dX4_put_30 : decode cX4_put 30 = .ok (.iload_n 1, 1) := by decide +kernel
theorem dX4_put_31 : decode cX4_put 31 = .ok (.iload_n 2, 1) := by decide +kernel
theorem dX4_put_32 : decode cX4_put 32 = .ok (.i2s, 1) := by decide +kernel
theorem dX4_put_33 : decode cX4_put 33 = .ok (.iastore, 1) := by decide +kernel
theorem dX4_put_34 : decode cX4_put 34 = .ok (.goto 10, 3) := by decide +kernel
theorem dX4_put_37 : decode cX4_put 37 = .ok (.aload_n 0, 1) := by decide +kernel
theorem dX4_put_38 : decode cX4_put 38 = .ok (.getfield 9, 3) := by decide +kernel
theorem dX4_put_41 : decode cX4_put 41 = .ok (.iload_n 1, 1) := by decide +kernel
theorem dX4_put_42 : decode cX4_put 42 = .ok (.iload_n 2, 1) := by decide +kernel
theorem dX4_put_43 : decode cX4_put 43 = .ok (.iastore, 1) := by decide +kernel
theorem dX4_put_44 : decode cX4_put 44 = .ok (.return_, 1) := by decide +kernel
theorem dX4_faultAt_0 : decode cX4_faultAt 0 = .ok (.aload_n 0, 1) := by decide +kernel
theorem dX4_faultAt_1 : decode cX4_faultAt 1 = .ok (.getfield 15, 3) := by decide +kernel
theorem dX4_faultAt_4 : decode cX4_faultAt 4 = .ok (.ifCond .ne 5, 3) := by decide +kernel
theorem dX4_faultAt_7 : decode cX4_faultAt 7 = .ok (.iconst 1, 1) := by decide +kernel
theorem dX4_faultAt_8 : decode cX4_faultAt 8 = .ok (.ireturn, 1) := by decide +kernel
theorem dX4_faultAt_9 : decode cX4_faultAt 9 = .ok (.iload_n 1, 1) := by decide +kernel
theorem dX4_faultAt_10 : decode cX4_faultAt 10 = .ok (.ifCond .lt 11, 3) := by decide +kernel
theorem dX4_faultAt_13 : decode cX4_faultAt 13 = .ok (.iload_n 1, 1) := by decide +kernel
theorem dX4_faultAt_14 : decode cX4_faultAt 14 = .ok (.aload_n 0, 1) := by decide +kernel
theorem dX4_faultAt_15 : decode cX4_faultAt 15 = .ok (.getfield 23, 3) := by decide +kernel
theorem dX4_faultAt_18 : decode cX4_faultAt 18 = .ok (.if_icmp .lt 7, 3) := by decide +kernel
theorem dX4_faultAt_21 : decode cX4_faultAt 21 = .ok (.iconst 2, 1) := by decide +kernel
theorem dX4_faultAt_22 : decode cX4_faultAt 22 = .ok (.goto 4, 3) := by decide +kernel
theorem dX4_faultAt_25 : decode cX4_faultAt 25 = .ok (.iconst 0, 1) := by decide +kernel
theorem dX4_faultAt_26 : decode cX4_faultAt 26 = .ok (.ireturn, 1) := by decide +kernel
set_option maxRecDepth 20000 in
theorem ggX4_faultInThree_X4_faultAt : GoodIn wsX4_faultInThree wsX4_faultAt := goodIn_r _ [7, 1, 8, 9, 10, 11, 12] (by decide +kernel) (by decide +kernel)
set_option maxRecDepth 20000 in
theorem gX4_faultInThree_X4_faultAt : GoodIn wsX4_faultInThree (wsV RX4 32 RX4 yX4_faultAt wsX4_faultAt) := goodIn_app (goodIn_of _ (by decide +kernel)) ggX4_faultInThree_X4_faultAt
theorem dX4_faultInThree_0 : decode cX4_faultInThree 0 = .ok (.aload_n 0, 1) := by decide +kernel
theorem dX4_faultInThree_1 : decode cX4_faultInThree 1 = .ok (.getfield 15, 3) := by decide +kernel
theorem dX4_faultInThree_4 : decode cX4_faultInThree 4 = .ok (.ifCond .eq 13, 3) := by decide +kernel
theorem dX4_faultInThree_7 : decode cX4_faultInThree 7 = .ok (.aload_n 0, 1) := by decide +kernel
theorem dX4_faultInThree_8 : decode cX4_faultInThree 8 = .ok (.getfield 19, 3) := by decide +kernel
theorem dX4_faultInThree_11 : decode cX4_faultInThree 11 = .ok (.iload_n 1, 1) := by decide +kernel
theorem dX4_faultInThree_12 : decode cX4_faultInThree 12 = .ok (.if_icmp .eq 5, 3) := by decide +kernel
theorem dX4_faultInThree_15 : decode cX4_faultInThree 15 = .ok (.iconst 3, 1) := by decide +kernel
theorem dX4_faultInThree_16 : decode cX4_faultInThree 16 = .ok (.ireturn, 1) := by decide +kernel
theorem dX4_faultInThree_17 : decode cX4_faultInThree 17 = .ok (.aload_n 0, 1) := by decide +kernel
theorem dX4_faultInThree_18 : decode cX4_faultInThree 18 = .ok (.iload_n 2, 1) := by decide +kernel
theorem dX4_faultInThree_19 : decode cX4_faultInThree 19 = .ok (.invokevirtual 32, 3) := by decide +kernel
theorem dX4_faultInThree_22 : decode cX4_faultInThree 22 = .ok (.istore_n 3, 1) := by decide +kernel
theorem dX4_faultInThree_23 : decode cX4_faultInThree 23 = .ok (.iload_n 3, 1) := by decide +kernel
theorem dX4_faultInThree_24 : decode cX4_faultInThree 24 = .ok (.ifCond .eq 7, 3) := by decide +kernel
theorem dX4_faultInThree_27 : decode cX4_faultInThree 27 = .ok (.iload_n 3, 1) := by decide +kernel
theorem dX4_faultInThree_28 : decode cX4_faultInThree 28 = .ok (.goto 10, 3) := by decide +kernel
theorem dX4_faultInThree_31 : decode cX4_faultInThree 31 = .ok (.aload_n 0, 1) := by decide +kernel
theorem dX4_faultInThree_32 : decode cX4_faultInThree 32 = .ok (.iload_n 2, 1) := by decide +kernel
theorem dX4_faultInThree_33 : decode cX4_faultInThree 33 = .ok (.iconst 2, 1) := by decide +kernel
theorem dX4_faultInThree_34 : decode cX4_faultInThree 34 = .ok (.iadd, 1) := by decide +kernel
theorem dX4_faultInThree_35 : decode cX4_faultInThree 35 = .ok (.invokevirtual 32, 3) := by decide +kernel
theorem dX4_faultInThree_38 : decode cX4_faultInThree 38 = .ok (.ireturn, 1) := by decide +kernel
theorem dX5_init_0 : decode cX5_init 0 = .ok (.aload_n 0, 1) := by decide +kernel
theorem dX5_init_1 : decode cX5_init 1 = .ok (.invokespecial 3, 3) := by decide +kernel
theorem dX5_init_4 : decode cX5_init 4 = .ok (.aload_n 0, 1) := by decide +kernel
theorem dX5_init_5 : decode cX5_init 5 = .ok (.sipush 160, 3) := by decide +kernel
theorem dX5_init_8 : decode cX5_init 8 = .ok (.newarray .byte, 2) := by decide +kernel
theorem dX5_init_10 : decode cX5_init 10 = .ok (.putfield 9, 3) := by decide +kernel
theorem dX5_init_13 : decode cX5_init 13 = .ok (.return_, 1) := by decide +kernel
theorem dX5_append_0 : decode cX5_append 0 = .ok (.aload_n 0, 1) := by decide +kernel
theorem dX5_append_1 : decode cX5_append 1 = .ok (.getfield 15, 3) := by decide +kernel
theorem dX5_append_4 : decode cX5_append 4 = .ok (.sipush 160, 3) := by decide +kernel
theorem dX5_append_7 : decode cX5_append 7 = .ok (.if_icmp .lt 5, 3) := by decide +kernel
theorem dX5_append_10 : decode cX5_append 10 = .ok (.iconst 0, 1) := by decide +kernel
theorem dX5_append_11 : decode cX5_append 11 = .ok (.ireturn, 1) := by decide +kernel
theorem dX5_append_12 : decode cX5_append 12 = .ok (.aload_n 0, 1) := by decide +kernel
theorem dX5_append_13 : decode cX5_append 13 = .ok (.getfield 9, 3) := by decide +kernel
theorem dX5_append_16 : decode cX5_append 16 = .ok (.aload_n 0, 1) := by decide +kernel
theorem dX5_append_17 : decode cX5_append 17 = .ok (.getfield 15, 3) := by decide +kernel
theorem dX5_append_20 : decode cX5_append 20 = .ok (.iload_n 1, 1) := by decide +kernel
theorem dX5_append_21 : decode cX5_append 21 = .ok (.i2b, 1) := by decide +kernel
theorem dX5_append_22 : decode cX5_append 22 = .ok (.bastore, 1) := by decide +kernel
theorem dX5_append_23 : decode cX5_append 23 = .ok (.aload_n 0, 1) := by decide +kernel
theorem dX5_append_24 : decode cX5_append 24 = .ok (.dup, 1) := by decide +kernel
theorem dX5_append_25 : decode cX5_append 25 = .ok (.getfield 15, 3) := by decide +kernel
theorem dX5_append_28 : decode cX5_append 28 = .ok (.iconst 1, 1) := by decide +kernel
theorem dX5_append_29 : decode cX5_append 29 = .ok (.iadd, 1) := by decide +kernel
theorem dX5_append_30 : decode cX5_append 30 = .ok (.putfield 15, 3) := by decide +kernel
theorem dX5_append_33 : decode cX5_append 33 = .ok (.iconst 1, 1) := by decide +kernel
theorem dX5_append_34 : decode cX5_append 34 = .ok (.ireturn, 1) := by decide +kernel
set_option maxRecDepth 20000 in
theorem ggX5_advance_X5_isLetter : GoodIn wsX5_advance wsX5_isLetter := goodIn_r _ [8] (by decide +kernel) (by decide +kernel)
set_option maxRecDepth 20000 in
theorem gX5_advance_X5_isLetter : GoodIn wsX5_advance (va_wsS RX5 25 yX5_isLetter wsX5_isLetter) := goodIn_app (goodIn_of _ (by decide +kernel)) ggX5_advance_X5_isLetter
set_option maxRecDepth 20000 in
theorem ggX5_advance_X5_takeName : GoodIn wsX5_advance wsX5_takeName := goodIn_r _ [12, 1, 2, 3, 5, 6, 7, 8, 21, 22, 23, 24, 25] (by decide +kernel) (by decide +kernel)
set_option maxRecDepth 20000 in
theorem gX5_advance_X5_takeName : GoodIn wsX5_advance (wsV RX5 29 RX5 yX5_takeName wsX5_takeName) := goodIn_app (goodIn_of _ (by decide +kernel)) ggX5_advance_X5_takeName
set_option maxRecDepth 20000 in
theorem ggX5_advance_X5_isFigure : GoodIn wsX5_advance wsX5_isFigure := goodIn_r _ [15] (by decide +kernel) (by decide +kernel)
set_option maxRecDepth 20000 in
theorem gX5_advance_X5_isFigure : GoodIn wsX5_advance (va_wsS RX5 33 yX5_isFigure wsX5_isFigure) := goodIn_app (goodIn_of _ (by decide +kernel)) ggX5_advance_X5_isFigure
set_option maxRecDepth 20000 in
theorem ggX5_advance_X5_takeNumber : GoodIn wsX5_advance wsX5_takeNumber := goodIn_r _ [19, 20, 1, 2, 3, 4, 13, 14, 7, 15, 21, 22, 23, 24, 25] (by decide +kernel) (by decide +kernel)
set_option maxRecDepth 20000 in
theorem gX5_advance_X5_takeNumber : GoodIn wsX5_advance (wsV RX5 36 RX5 yX5_takeNumber wsX5_takeNumber) := goodIn_app (goodIn_of _ (by decide +kernel)) ggX5_advance_X5_takeNumber
theorem dX5_advance_0 : decode cX5_advance 0 = .ok (.aload_n 0, 1) := by decide +kernel
theorem dX5_advance_1 : decode cX5_advance 1 = .ok (.getfield 19, 3) := by decide +kernel
theorem dX5_advance_4 : decode cX5_advance 4 = .ok (.aload_n 0, 1) := by decide +kernel
theorem dX5_advance_5 : decode cX5_advance 5 = .ok (.getfield 15, 3) := by decide +kernel
theorem dX5_advance_8 : decode cX5_advance 8 = .ok (.if_icmp .ge 30, 3) := by decide +kernel
theorem dX5_advance_11 : decode cX5_advance 11 = .ok (.aload_n 0, 1) := by decide +kernel
theorem dX5_advance_12 : decode cX5_advance 12 = .ok (.getfield 9, 3) := by decide +kernel
theorem dX5_advance_15 : decode cX5_advance 15 = .ok (.aload_n 0, 1) := by decide +kernel
theorem dX5_advance_16 : decode cX5_advance 16 = .ok (.getfield 19, 3) := by decide +kernel
theorem dX5_advance_19 : decode cX5_advance 19 = .ok (.baload, 1) := by decide +kernel
theorem dX5_advance_20 : decode cX5_advance 20 = .ok (.bipush 32, 2) := by decide +kernel
theorem dX5_advance_22 : decode cX5_advance 22 = .ok (.if_icmp .ne 16, 3) := by decide +kernel
theorem dX5_advance_25 : decode cX5_advance 25 = .ok (.aload_n 0, 1) := by decide +kernel
theorem dX5_advance_26 : decode cX5_advance 26 = .ok (.dup, 1) := by decide +kernel
theorem dX5_advance_27 : decode cX5_advance 27 = .ok (.getfield 19, 3) := by decide +kernel
theorem dX5_advance_30 : decode cX5_advance 30 = .ok (.iconst 1, 1) := by decide +kernel
theorem dX5_advance_31 : decode cX5_advance 31 = .ok (.iadd, 1) := by decide +kernel
theorem dX5_advance_32 : decode cX5_advance 32 = .ok (.putfield 19, 3) := by decide +kernel
theorem dX5_advance_35 : decode cX5_advance 35 = .ok (.goto (-35), 3) := by decide +kernel
theorem dX5_advance_38 : decode cX5_advance 38 = .ok (.aload_n 0, 1) := by decide +kernel
theorem dX5_advance_39 : decode cX5_advance 39 = .ok (.aload_n 0, 1) := by decide +kernel
theorem dX5_advance_40 : decode cX5_advance 40 = .ok (.getfield 19, 3) := by decide +kernel
theorem dX5_advance_43 : decode cX5_advance 43 = .ok (.putfield 22, 3) := by decide +kernel
theorem dX5_advance_46 : decode cX5_advance 46 = .ok (.aload_n 0, 1) := by decide +kernel
theorem dX5_advance_47 : decode cX5_advance 47 = .ok (.getfield 22, 3) := by decide +kernel
theorem dX5_advance_50 : decode cX5_advance 50 = .ok (.aload_n 0, 1) := by decide +kernel
theorem dX5_advance_51 : decode cX5_advance 51 = .ok (.getfield 15, 3) := by decide +kernel
theorem dX5_advance_54 : decode cX5_advance 54 = .ok (.if_icmp .lt 5, 3) := by decide +kernel
theorem dX5_advance_57 : decode cX5_advance 57 = .ok (.iconst 0, 1) := by decide +kernel
theorem dX5_advance_58 : decode cX5_advance 58 = .ok (.ireturn, 1) := by decide +kernel
theorem dX5_advance_59 : decode cX5_advance 59 = .ok (.aload_n 0, 1) := by decide +kernel
theorem dX5_advance_60 : decode cX5_advance 60 = .ok (.getfield 9, 3) := by decide +kernel
theorem dX5_advance_63 : decode cX5_advance 63 = .ok (.aload_n 0, 1) := by decide +kernel
theorem dX5_advance_64 : decode cX5_advance 64 = .ok (.getfield 22, 3) := by decide +kernel
theorem dX5_advance_67 : decode cX5_advance 67 = .ok (.baload, 1) := by decide +kernel
theorem dX5_advance_68 : decode cX5_advance 68 = .ok (.invokestatic 25, 3) := by decide +kernel
theorem dX5_advance_71 : decode cX5_advance 71 = .ok (.ifCond .eq 8, 3) := by decide +kernel
theorem dX5_advance_74 : decode cX5_advance 74 = .ok (.aload_n 0, 1) := by decide +kernel
theorem dX5_advance_75 : decode cX5_advance 75 = .ok (.invokevirtual 29, 3) := by decide +kernel
theorem dX5_advance_78 : decode cX5_advance 78 = .ok (.ireturn, 1) := by decide +kernel
theorem dX5_advance_79 : decode cX5_advance 79 = .ok (.aload_n 0, 1) := by decide +kernel
theorem dX5_advance_80 : decode cX5_advance 80 = .ok (.getfield 9, 3) := by decide +kernel
theorem dX5_advance_83 : decode cX5_advance 83 = .ok (.aload_n 0, 1) := by decide +kernel
theorem dX5_advance_84 : decode cX5_advance 84 = .ok (.getfield 22, 3) := by decide +kernel
theorem dX5_advance_87 : decode cX5_advance 87 = .ok (.baload, 1) := by decide +kernel
theorem dX5_advance_88 : decode cX5_advance 88 = .ok (.invokestatic 33, 3) := by decide +kernel
theorem dX5_advance_91 : decode cX5_advance 91 = .ok (.ifCond .eq 8, 3) := by decide +kernel
theorem dX5_advance_94 : decode cX5_advance 94 = .ok (.aload_n 0, 1) := by decide +kernel
theorem dX5_advance_95 : decode cX5_advance 95 = .ok (.invokevirtual 36, 3) := by decide +kernel
theorem dX5_advance_98 : decode cX5_advance 98 = .ok (.ireturn, 1) := by decide +kernel
theorem dX5_advance_99 : decode cX5_advance 99 = .ok (.aload_n 0, 1) := by decide +kernel
theorem dX5_advance_100 : decode cX5_advance 100 = .ok (.dup, 1) := by decide +kernel
theorem dX5_advance_101 : decode cX5_advance 101 = .ok (.getfield 19, 3) := by decide +kernel
theorem dX5_advance_104 : decode cX5_advance 104 = .ok (.iconst 1, 1) := by decide +kernel
theorem dX5_advance_105 : decode cX5_advance 105 = .ok (.iadd, 1) := by decide +kernel
theorem dX5_advance_106 : decode cX5_advance 106 = .ok (.putfield 19, 3) := by decide +kernel
theorem dX5_advance_109 : decode cX5_advance 109 = .ok (.aload_n 0, 1) := by decide +kernel
theorem dX5_advance_110 : decode cX5_advance 110 = .ok (.getfield 9, 3) := by decide +kernel
theorem dX5_advance_113 : decode cX5_advance 113 = .ok (.aload_n 0, 1) := by decide +kernel
theorem dX5_advance_114 : decode cX5_advance 114 = .ok (.getfield 22, 3) := by decide +kernel
theorem dX5_advance_117 : decode cX5_advance 117 = .ok (.baload, 1) := by decide +kernel
theorem dX5_advance_118 : decode cX5_advance 118 = .ok (.bipush 59, 2) := by decide +kernel
theorem dX5_advance_120 : decode cX5_advance 120 = .ok (.if_icmp .ne 7, 3) := by decide +kernel
theorem dX5_advance_123 : decode cX5_advance 123 = .ok (.iconst 3, 1) := by decide +kernel
theorem dX5_advance_124 : decode cX5_advance 124 = .ok (.goto 4, 3) := by decide +kernel
theorem dX5_advance_127 : decode cX5_advance 127 = .ok (.iconst 4, 1) := by decide +kernel
theorem dX5_advance_128 : decode cX5_advance 128 = .ok (.ireturn, 1) := by decide +kernel
set_option maxRecDepth 20000 in
theorem ggX5_takeName_X5_isLetter : GoodIn wsX5_takeName wsX5_isLetter := goodIn_r _ [7] (by decide +kernel) (by decide +kernel)
set_option maxRecDepth 20000 in
theorem gX5_takeName_X5_isLetter : GoodIn wsX5_takeName (va_wsS RX5 25 yX5_isLetter wsX5_isLetter) := goodIn_app (goodIn_of _ (by decide +kernel)) ggX5_takeName_X5_isLetter
theorem dX5_takeName_0 : decode cX5_takeName 0 = .ok (.aload_n 0, 1) := by decide +kernel
theorem dX5_takeName_1 : decode cX5_takeName 1 = .ok (.getfield 19, 3) := by decide +kernel
theorem dX5_takeName_4 : decode cX5_takeName 4 = .ok (.aload_n 0, 1) := by decide +kernel
theorem dX5_takeName_5 : decode cX5_takeName 5 = .ok (.getfield 15, 3) := by decide +kernel
theorem dX5_takeName_8 : decode cX5_takeName 8 = .ok (.if_icmp .ge 31, 3) := by decide +kernel
theorem dX5_takeName_11 : decode cX5_takeName 11 = .ok (.aload_n 0, 1) := by decide +kernel
theorem dX5_takeName_12 : decode cX5_takeName 12 = .ok (.getfield 9, 3) := by decide +kernel
theorem dX5_takeName_15 : decode cX5_takeName 15 = .ok (.aload_n 0, 1) := by decide +kernel
theorem dX5_takeName_16 : decode cX5_takeName 16 = .ok (.getfield 19, 3) := by decide +kernel
theorem dX5_takeName_19 : decode cX5_takeName 19 = .ok (.baload, 1) := by decide +kernel
theorem dX5_takeName_20 : decode cX5_takeName 20 = .ok (.invokestatic 25, 3) := by decide +kernel
theorem dX5_takeName_23 : decode cX5_takeName 23 = .ok (.ifCond .eq 16, 3) := by decide +kernel
theorem dX5_takeName_26 : decode cX5_takeName 26 = .ok (.aload_n 0, 1) := by decide +kernel
theorem dX5_takeName_27 : decode cX5_takeName 27 = .ok (.dup, 1) := by decide +kernel
theorem dX5_takeName_28 : decode cX5_takeName 28 = .ok (.getfield 19, 3) := by decide +kernel
theorem dX5_takeName_31 : decode cX5_takeName 31 = .ok (.iconst 1, 1) := by decide +kernel
theorem dX5_takeName_32 : decode cX5_takeName 32 = .ok (.iadd, 1) := by decide +kernel
theorem dX5_takeName_33 : decode cX5_takeName 33 = .ok (.putfield 19, 3) := by decide +kernel
theorem dX5_takeName_36 : decode cX5_takeName 36 = .ok (.goto (-36), 3) := by decide +kernel
theorem dX5_takeName_39 : decode cX5_takeName 39 = .ok (.iconst 1, 1) := by decide +kernel
theorem dX5_takeName_40 : decode cX5_takeName 40 = .ok (.ireturn, 1) := by decide +kernel
set_option maxRecDepth 20000 in
theorem ggX5_takeNumber_X5_isFigure : GoodIn wsX5_takeNumber wsX5_isFigure := goodIn_r _ [9] (by decide +kernel) (by decide +kernel)
set_option maxRecDepth 20000 in
theorem gX5_takeNumber_X5_isFigure : GoodIn wsX5_takeNumber (va_wsS RX5 33 yX5_isFigure wsX5_isFigure) := goodIn_app (goodIn_of _ (by decide +kernel)) ggX5_takeNumber_X5_isFigure
theorem dX5_takeNumber_0 : decode cX5_takeNumber 0 = .ok (.aload_n 0, 1) := by decide +kernel
theorem dX5_takeNumber_1 : decode cX5_takeNumber 1 = .ok (.iconst 0, 1) := by decide +kernel
theorem dX5_takeNumber_2 : decode cX5_takeNumber 2 = .ok (.putfield 39, 3) := by decide +kernel
theorem dX5_takeNumber_5 : decode cX5_takeNumber 5 = .ok (.aload_n 0, 1) := by decide +kernel
theorem dX5_takeNumber_6 : decode cX5_takeNumber 6 = .ok (.getfield 19, 3) := by decide +kernel
theorem dX5_takeNumber_9 : decode cX5_takeNumber 9 = .ok (.aload_n 0, 1) := by decide +kernel
theorem dX5_takeNumber_10 : decode cX5_takeNumber 10 = .ok (.getfield 15, 3) := by decide +kernel
theorem dX5_takeNumber_13 : decode cX5_takeNumber 13 = .ok (.if_icmp .ge 58, 3) := by decide +kernel
theorem dX5_takeNumber_16 : decode cX5_takeNumber 16 = .ok (.aload_n 0, 1) := by decide +kernel
theorem dX5_takeNumber_17 : decode cX5_takeNumber 17 = .ok (.getfield 9, 3) := by decide +kernel
theorem dX5_takeNumber_20 : decode cX5_takeNumber 20 = .ok (.aload_n 0, 1) := by decide +kernel
theorem dX5_takeNumber_21 : decode cX5_takeNumber 21 = .ok (.getfield 19, 3) := by decide +kernel
theorem dX5_takeNumber_24 : decode cX5_takeNumber 24 = .ok (.baload, 1) := by decide +kernel
theorem dX5_takeNumber_25 : decode cX5_takeNumber 25 = .ok (.invokestatic 33, 3) := by decide +kernel
theorem dX5_takeNumber_28 : decode cX5_takeNumber 28 = .ok (.ifCond .eq 43, 3) := by decide +kernel
theorem dX5_takeNumber_31 : decode cX5_takeNumber 31 = .ok (.aload_n 0, 1) := by decide +kernel
theorem dX5_takeNumber_32 : decode cX5_takeNumber 32 = .ok (.bipush 10, 2) := by decide +kernel
theorem dX5_takeNumber_34 : decode cX5_takeNumber 34 = .ok (.aload_n 0, 1) := by decide +kernel
theorem dX5_takeNumber_35 : decode cX5_takeNumber 35 = .ok (.getfield 39, 3) := by decide +kernel
theorem dX5_takeNumber_38 : decode cX5_takeNumber 38 = .ok (.imul, 1) := by decide +kernel
theorem dX5_takeNumber_39 : decode cX5_takeNumber 39 = .ok (.aload_n 0, 1) := by decide +kernel
theorem dX5_takeNumber_40 : decode cX5_takeNumber 40 = .ok (.getfield 9, 3) := by decide +kernel
theorem dX5_takeNumber_43 : decode cX5_takeNumber 43 = .ok (.aload_n 0, 1) := by decide +kernel
theorem dX5_takeNumber_44 : decode cX5_takeNumber 44 = .ok (.getfield 19, 3) := by decide +kernel
theorem dX5_takeNumber_47 : decode cX5_takeNumber 47 = .ok (.baload, 1) := by decide +kernel
theorem dX5_takeNumber_48 : decode cX5_takeNumber 48 = .ok (.iadd, 1) := by decide +kernel
theorem dX5_takeNumber_49 : decode cX5_takeNumber 49 = .ok (.bipush 48, 2) := by decide +kernel
theorem dX5_takeNumber_51 : decode cX5_takeNumber 51 = .ok (.isub, 1) := by decide +kernel
theorem dX5_takeNumber_52 : decode cX5_takeNumber 52 = .ok (.bipush 100, 2) := by decide +kernel
theorem dX5_takeNumber_54 : decode cX5_takeNumber 54 = .ok (.irem, 1) := by decide +kernel
theorem dX5_takeNumber_55 : decode cX5_takeNumber 55 = .ok (.putfield 39, 3) := by decide +kernel
theorem dX5_takeNumber_58 : decode cX5_takeNumber 58 = .ok (.aload_n 0, 1) := by decide +kernel
theorem dX5_takeNumber_59 : decode cX5_takeNumber 59 = .ok (.dup, 1) := by decide +kernel
theorem dX5_takeNumber_60 : decode cX5_takeNumber 60 = .ok (.getfield 19, 3) := by decide +kernel
theorem dX5_takeNumber_63 : decode cX5_takeNumber 63 = .ok (.iconst 1, 1) := by decide +kernel
theorem dX5_takeNumber_64 : decode cX5_takeNumber 64 = .ok (.iadd, 1) := by decide +kernel
theorem dX5_takeNumber_65 : decode cX5_takeNumber 65 = .ok (.putfield 19, 3) := by decide +kernel
theorem dX5_takeNumber_68 : decode cX5_takeNumber 68 = .ok (.goto (-63), 3) := by decide +kernel
theorem dX5_takeNumber_71 : decode cX5_takeNumber 71 = .ok (.aload_n 0, 1) := by decide +kernel
theorem dX5_takeNumber_72 : decode cX5_takeNumber 72 = .ok (.getfield 19, 3) := by decide +kernel
theorem dX5_takeNumber_75 : decode cX5_takeNumber 75 = .ok (.aload_n 0, 1) := by decide +kernel
theorem dX5_takeNumber_76 : decode cX5_takeNumber 76 = .ok (.getfield 22, 3) := by decide +kernel
theorem dX5_takeNumber_79 : decode cX5_takeNumber 79 = .ok (.isub, 1) := by decide +kernel
theorem dX5_takeNumber_80 : decode cX5_takeNumber 80 = .ok (.iconst 2, 1) := by decide +kernel
theorem dX5_takeNumber_81 : decode cX5_takeNumber 81 = .ok (.if_icmp .gt 7, 3) := by decide +kernel
theorem dX5_takeNumber_84 : decode cX5_takeNumber 84 = .ok (.iconst 2, 1) := by decide +kernel
theorem dX5_takeNumber_85 : decode cX5_takeNumber 85 = .ok (.goto 4, 3) := by decide +kernel
theorem dX5_takeNumber_88 : decode cX5_takeNumber 88 = .ok (.iconst 4, 1) := by decide +kernel
theorem dX5_takeNumber_89 : decode cX5_takeNumber 89 = .ok (.ireturn, 1) := by decide +kernel
set_option maxRecDepth 20000 in
theorem ggX5_nameIs_J0_length_8abf5 : GoodIn wsX5_nameIs wsJ0_length_8abf5 := goodIn_r _ [8, 9, 10, 11, 12, 7, 13, 14, 15] (by decide +kernel) (by decide +kernel)
set_option maxRecDepth 20000 in
theorem gX5_nameIs_J0_length_8abf5 : GoodIn wsX5_nameIs (wsV RX5 42 RJ0 yJ0_length_8abf5 wsJ0_length_8abf5) := goodIn_app (goodIn_of _ (by decide +kernel)) ggX5_nameIs_J0_length_8abf5
set_option maxRecDepth 20000 in
theorem ggX5_nameIs_J0_charAt_5068e : GoodIn wsX5_nameIs wsJ0_charAt_5068e := goodIn_r _ [19, 9, 20, 21, 22, 7, 23, 14, 15, 24, 25, 26, 27, 28, 29, 30, 31, 32, 33, 34, 35, 36, 37, 38, 39, 40, 41, 42, 43, 44, 45, 46, 47, 48, 49, 50, 51, 52] (by decide +kernel) (by decide +kernel)
set_option maxRecDepth 20000 in
theorem gX5_nameIs_J0_charAt_5068e : GoodIn wsX5_nameIs (wsV RX5 46 RJ0 yJ0_charAt_5068e wsJ0_charAt_5068e) := goodIn_app (goodIn_of _ (by decide +kernel)) ggX5_nameIs_J0_charAt_5068e
theorem dX5_nameIs_0 : decode cX5_nameIs 0 = .ok (.aload_n 0, 1) := by decide +kernel
theorem dX5_nameIs_1 : decode cX5_nameIs 1 = .ok (.getfield 19, 3) := by decide +kernel
theorem dX5_nameIs_4 : decode cX5_nameIs 4 = .ok (.aload_n 0, 1) := by decide +kernel
theorem dX5_nameIs_5 : decode cX5_nameIs 5 = .ok (.getfield 22, 3) := by decide +kernel
theorem dX5_nameIs_8 : decode cX5_nameIs 8 = .ok (.isub, 1) := by decide +kernel
theorem dX5_nameIs_9 : decode cX5_nameIs 9 = .ok (.aload_n 1, 1) := by decide +kernel
theorem dX5_nameIs_10 : decode cX5_nameIs 10 = .ok (.invokevirtual 42, 3) := by decide +kernel
theorem dX5_nameIs_13 : decode cX5_nameIs 13 = .ok (.if_icmp .eq 5, 3) := by decide +kernel
theorem dX5_nameIs_16 : decode cX5_nameIs 16 = .ok (.iconst 0, 1) := by decide +kernel
theorem dX5_nameIs_17 : decode cX5_nameIs 17 = .ok (.ireturn, 1) := by decide +kernel
theorem dX5_nameIs_18 : decode cX5_nameIs 18 = .ok (.iconst 0, 1) := by decide +kernel
theorem dX5_nameIs_19 : decode cX5_nameIs 19 = .ok (.istore_n 2, 1) := by decide +kernel
theorem dX5_nameIs_20 : decode cX5_nameIs 20 = .ok (.iload_n 2, 1) := by decide +kernel
theorem dX5_nameIs_21 : decode cX5_nameIs 21 = .ok (.aload_n 1, 1) := by decide +kernel
theorem dX5_nameIs_22 : decode cX5_nameIs 22 = .ok (.invokevirtual 42, 3) := by decide +kernel
theorem dX5_nameIs_25 : decode cX5_nameIs 25 = .ok (.if_icmp .ge 30, 3) := by decide +kernel
theorem dX5_nameIs_28 : decode cX5_nameIs 28 = .ok (.aload_n 0, 1) := by decide +kernel
theorem dX5_nameIs_29 : decode cX5_nameIs 29 = .ok (.getfield 9, 3) := by decide +kernel
theorem dX5_nameIs_32 : decode cX5_nameIs 32 = .ok (.aload_n 0, 1) := by decide +kernel
theorem dX5_nameIs_33 : decode cX5_nameIs 33 = .ok (.getfield 22, 3) := by decide +kernel
theorem dX5_nameIs_36 : decode cX5_nameIs 36 = .ok (.iload_n 2, 1) := by decide +kernel
theorem dX5_nameIs_37 : decode cX5_nameIs 37 = .ok (.iadd, 1) := by decide +kernel
theorem dX5_nameIs_38 : decode cX5_nameIs 38 = .ok (.baload, 1) := by decide +kernel
theorem dX5_nameIs_39 : decode cX5_nameIs 39 = .ok (.aload_n 1, 1) := by decide +kernel
theorem dX5_nameIs_40 : decode cX5_nameIs 40 = .ok (.iload_n 2, 1) := by decide +kernel
theorem dX5_nameIs_41 : decode cX5_nameIs 41 = .ok (.invokevirtual 46, 3) := by decide +kernel
theorem dX5_nameIs_44 : decode cX5_nameIs 44 = .ok (.if_icmp .eq 5, 3) := by decide +kernel
theorem dX5_nameIs_47 : decode cX5_nameIs 47 = .ok (.iconst 0, 1) := by decide +kernel
theorem dX5_nameIs_48 : decode cX5_nameIs 48 = .ok (.ireturn, 1) := by decide +kernel
theorem dX5_nameIs_49 : decode cX5_nameIs 49 = .ok (.iinc 2 1, 3) := by decide +kernel
theorem dX5_nameIs_52 : decode cX5_nameIs 52 = .ok (.goto (-32), 3) := by decide +kernel
theorem dX5_nameIs_55 : decode cX5_nameIs 55 = .ok (.iconst 1, 1) := by decide +kernel
theorem dX5_nameIs_56 : decode cX5_nameIs 56 = .ok (.ireturn, 1) := by decide +kernel
theorem dX5_isLetter_0 : decode cX5_isLetter 0 = .ok (.iload_n 0, 1) := by decide +kernel
theorem dX5_isLetter_1 : decode cX5_isLetter 1 = .ok (.bipush 97, 2) := by decide +kernel
theorem dX5_isLetter_3 : decode cX5_isLetter 3 = .ok (.if_icmp .lt 13, 3) := by decide +kernel
theorem dX5_isLetter_6 : decode cX5_isLetter 6 = .ok (.iload_n 0, 1) := by decide +kernel
theorem dX5_isLetter_7 : decode cX5_isLetter 7 = .ok (.bipush 122, 2) := by decide +kernel
theorem dX5_isLetter_9 : decode cX5_isLetter 9 = .ok (.if_icmp .gt 7, 3) := by decide +kernel
theorem dX5_isLetter_12 : decode cX5_isLetter 12 = .ok (.iconst 1, 1) := by decide +kernel
theorem dX5_isLetter_13 : decode cX5_isLetter 13 = .ok (.goto 4, 3) := by decide +kernel
theorem dX5_isLetter_16 : decode cX5_isLetter 16 = .ok (.iconst 0, 1) := by decide +kernel
theorem dX5_isLetter_17 : decode cX5_isLetter 17 = .ok (.ireturn, 1) := by decide +kernel
theorem dX5_isFigure_0 : decode cX5_isFigure 0 = .ok (.iload_n 0, 1) := by decide +kernel
theorem dX5_isFigure_1 : decode cX5_isFigure 1 = .ok (.bipush 48, 2) := by decide +kernel
theorem dX5_isFigure_3 : decode cX5_isFigure 3 = .ok (.if_icmp .lt 13, 3) := by decide +kernel
theorem dX5_isFigure_6 : decode cX5_isFigure 6 = .ok (.iload_n 0, 1) := by decide +kernel
theorem dX5_isFigure_7 : decode cX5_isFigure 7 = .ok (.bipush 57, 2) := by decide +kernel
theorem dX5_isFigure_9 : decode cX5_isFigure 9 = .ok (.if_icmp .gt 7, 3) := by decide +kernel
theorem dX5_isFigure_12 : decode cX5_isFigure 12 = .ok (.iconst 1, 1) := by decide +kernel
theorem dX5_isFigure_13 : decode cX5_isFigure 13 = .ok (.goto 4, 3) := by decide +kernel
theorem dX5_isFigure_16 : decode cX5_isFigure 16 = .ok (.iconst 0, 1) := by decide +kernel
theorem dX5_isFigure_17 : decode cX5_isFigure 17 = .ok (.ireturn, 1) := by decide +kernel
theorem dX6_init_0 : decode cX6_init 0 = .ok (.aload_n 0, 1) := by decide +kernel
theorem dX6_init_1 : decode cX6_init 1 = .ok (.invokespecial 3, 3) := by decide +kernel
theorem dX6_init_4 : decode cX6_init 4 = .ok (.aload_n 0, 1) := by decide +kernel
theorem dX6_init_5 : decode cX6_init 5 = .ok (.aload_n 1, 1) := by decide +kernel
theorem dX6_init_6 : decode cX6_init 6 = .ok (.putfield 9, 3) := by decide +kernel
theorem dX6_init_9 : decode cX6_init 9 = .ok (.aload_n 0, 1) := by decide +kernel
theorem dX6_init_10 : decode cX6_init 10 = .ok (.aload_n 2, 1) := by decide +kernel
theorem dX6_init_11 : decode cX6_init 11 = .ok (.putfield 15, 3) := by decide +kernel
theorem dX6_init_14 : decode cX6_init 14 = .ok (.return_, 1) := by decide +kernel
set_option maxRecDepth 20000 in
theorem ggX6_tellAll_X2_clear : GoodIn wsX6_tellAll wsX2_clear := goodIn_r _ [9, 10, 11, 12, 13, 14, 163, 164, 165, 166, 167, 168, 169] (by decide +kernel) (by decide +kernel)
set_option maxRecDepth 20000 in
theorem gX6_tellAll_X2_clear : GoodIn wsX6_tellAll (wsV RX6 19 RX2 yX2_clear wsX2_clear) := goodIn_app (goodIn_of _ (by decide +kernel)) ggX6_tellAll_X2_clear
set_option maxRecDepth 20000 in
theorem ggX6_tellAll_X5_advance : GoodIn wsX6_tellAll wsX5_advance := goodIn_r _ [19, 20, 21, 22, 23, 24, 25, 18, 26, 27, 28, 29, 30, 31, 32, 33, 34, 35, 36, 37, 38, 158, 159, 160, 161, 162] (by decide +kernel) (by decide +kernel)
set_option maxRecDepth 20000 in
theorem gX6_tellAll_X5_advance : GoodIn wsX6_tellAll (wsV RX6 33 RX5 yX5_advance wsX5_advance) := goodIn_app (goodIn_of _ (by decide +kernel)) ggX6_tellAll_X5_advance
set_option maxRecDepth 20000 in
theorem ggX6_tellAll_X6_tellLine : GoodIn wsX6_tellAll wsX6_tellLine := goodIn_r _ [43, 44, 45, 46, 42, 47, 48, 49, 50, 51, 2, 52, 53, 54, 55, 3, 56, 57, 58, 18, 59, 20, 23, 22, 60, 61, 62, 63, 64, 65, 66, 67, 68, 69, 70, 71, 72, 73, 74, 75, 76, 77, 78, 79, 80, 81, 82, 83, 84, 85, 86, 87, 88, 89, 90, 91, 92, 93, 94, 95, 96, 97, 98, 99, 100, 101, 102, 103, 104, 105, 106, 107, 108, 109, 110, 111, 112, 1, 113, 114, 115, 116, 117, 118, 15, 16, 17, 19, 21, 24, 25, 26, 27, 28, 29, 30, 31, 32, 33, 34, 35, 36, 37, 38, 119, 120, 121, 122, 123, 124, 125, 8, 126, 11, 127, 128, 129, 130, 131, 132, 133, 134, 135, 136, 137, 138, 139, 140, 141, 142, 143, 144, 10, 145, 146, 147, 148, 149, 150, 151, 152, 153, 154, 155, 156, 157, 158, 159, 160, 161, 162, 163, 164, 165, 166, 167, 168, 169, 170, 171, 172, 173, 174, 175, 176, 177, 178] (by decide +kernel) (by decide +kernel)
set_option maxRecDepth 20000 in
theorem gX6_tellAll_X6_tellLine : GoodIn wsX6_tellAll (wsV RX6 37 RX6 yX6_tellLine wsX6_tellLine) := goodIn_app (goodIn_of _ (by decide +kernel)) ggX6_tellAll_X6_tellLine
theorem dX6_tellAll_0 : decode cX6_tellAll 0 = .ok (.aload_n 0, 1) := by decide +kernel
theorem dX6_tellAll_1 : decode cX6_tellAll 1 = .ok (.getfield 15, 3) := by decide +kernel
theorem dX6_tellAll_4 : decode cX6_tellAll 4 = .ok (.invokevirtual 19, 3) := by decide +kernel
theorem dX6_tellAll_7 : decode cX6_tellAll 7 = .ok (.aload_n 0, 1) := by decide +kernel
theorem dX6_tellAll_8 : decode cX6_tellAll 8 = .ok (.iconst 0, 1) := by decide +kernel
theorem dX6_tellAll_9 : decode cX6_tellAll 9 = .ok (.putfield 24, 3) := by decide +kernel
theorem dX6_tellAll_12 : decode cX6_tellAll 12 = .ok (.aload_n 0, 1) := by decide +kernel
theorem dX6_tellAll_13 : decode cX6_tellAll 13 = .ok (.getfield 9, 3) := by decide +kernel
theorem dX6_tellAll_16 : decode cX6_tellAll 16 = .ok (.iconst 0, 1) := by decide +kernel
theorem dX6_tellAll_17 : decode cX6_tellAll 17 = .ok (.putfield 28, 3) := by decide +kernel
theorem dX6_tellAll_20 : decode cX6_tellAll 20 = .ok (.iconst 0, 1) := by decide +kernel
theorem dX6_tellAll_21 : decode cX6_tellAll 21 = .ok (.istore_n 1, 1) := by decide +kernel
theorem dX6_tellAll_22 : decode cX6_tellAll 22 = .ok (.iconst 0, 1) := by decide +kernel
theorem dX6_tellAll_23 : decode cX6_tellAll 23 = .ok (.istore_n 2, 1) := by decide +kernel
theorem dX6_tellAll_24 : decode cX6_tellAll 24 = .ok (.iload_n 2, 1) := by decide +kernel
theorem dX6_tellAll_25 : decode cX6_tellAll 25 = .ok (.sipush 160, 3) := by decide +kernel
theorem dX6_tellAll_28 : decode cX6_tellAll 28 = .ok (.if_icmp .gt 35, 3) := by decide +kernel
theorem dX6_tellAll_31 : decode cX6_tellAll 31 = .ok (.aload_n 0, 1) := by decide +kernel
theorem dX6_tellAll_32 : decode cX6_tellAll 32 = .ok (.getfield 9, 3) := by decide +kernel
theorem dX6_tellAll_35 : decode cX6_tellAll 35 = .ok (.invokevirtual 33, 3) := by decide +kernel
theorem dX6_tellAll_38 : decode cX6_tellAll 38 = .ok (.istore_n 3, 1) := by decide +kernel
theorem dX6_tellAll_39 : decode cX6_tellAll 39 = .ok (.iload_n 3, 1) := by decide +kernel
theorem dX6_tellAll_40 : decode cX6_tellAll 40 = .ok (.ifCond .eq 23, 3) := by decide +kernel
theorem dX6_tellAll_43 : decode cX6_tellAll 43 = .ok (.aload_n 0, 1) := by decide +kernel
theorem dX6_tellAll_44 : decode cX6_tellAll 44 = .ok (.iload_n 3, 1) := by decide +kernel
theorem dX6_tellAll_45 : decode cX6_tellAll 45 = .ok (.invokevirtual 37, 3) := by decide +kernel
theorem dX6_tellAll_48 : decode cX6_tellAll 48 = .ok (.ifCond .ne 6, 3) := by decide +kernel
theorem dX6_tellAll_51 : decode cX6_tellAll 51 = .ok (.goto 12, 3) := by decide +kernel
theorem dX6_tellAll_54 : decode cX6_tellAll 54 = .ok (.iinc 1 1, 3) := by decide +kernel
theorem dX6_tellAll_57 : decode cX6_tellAll 57 = .ok (.iinc 2 1, 3) := by decide +kernel
theorem dX6_tellAll_60 : decode cX6_tellAll 60 = .ok (.goto (-36), 3) := by decide +kernel
theorem dX6_tellAll_63 : decode cX6_tellAll 63 = .ok (.iload_n 1, 1) := by decide +kernel
theorem dX6_tellAll_64 : decode cX6_tellAll 64 = .ok (.ireturn, 1) := by decide +kernel
set_option maxRecDepth 20000 in
theorem ggX6_tellLine_X6_expect : GoodIn wsX6_tellLine wsX6_expect := goodIn_r _ [5, 6, 7, 8, 4, 9, 10, 143, 144, 145] (by decide +kernel) (by decide +kernel)
set_option maxRecDepth 20000 in
theorem gX6_tellLine_X6_expect : GoodIn wsX6_tellLine (wsV RX6 41 RX6 yX6_expect wsX6_expect) := goodIn_app (goodIn_of _ (by decide +kernel)) ggX6_tellLine_X6_expect
set_option maxRecDepth 20000 in
theorem ggX6_tellLine_X6_lineBegun : GoodIn wsX6_tellLine wsX6_lineBegun := goodIn_r _ [14, 15, 16, 17, 18, 19, 20, 21, 22, 23, 24, 25, 26, 27, 28, 29, 30, 31, 32, 33, 34, 35, 36, 37, 38, 39, 40, 41, 42, 43, 44, 45, 46, 47, 48, 49, 50, 51, 52, 53, 54, 55, 56, 57, 58, 59, 60, 61, 62, 63, 64, 65, 66, 67, 68, 69, 70, 71, 72, 143, 144, 145, 146, 147, 148, 149, 150] (by decide +kernel) (by decide +kernel)
set_option maxRecDepth 20000 in
theorem gX6_tellLine_X6_lineBegun : GoodIn wsX6_tellLine (wsV RX6 45 RX6 yX6_lineBegun wsX6_lineBegun) := goodIn_app (goodIn_of _ (by decide +kernel)) ggX6_tellLine_X6_lineBegun
set_option maxRecDepth 20000 in
theorem ggX6_tellLine_X6_fail : GoodIn wsX6_tellLine wsX6_fail := goodIn_r _ [9, 10, 143, 144, 145] (by decide +kernel) (by decide +kernel)
set_option maxRecDepth 20000 in
theorem gX6_tellLine_X6_fail : GoodIn wsX6_tellLine (wsV RX6 48 RX6 yX6_fail wsX6_fail) := goodIn_app (goodIn_of _ (by decide +kernel)) ggX6_tellLine_X6_fail
set_option maxRecDepth 20000 in
theorem ggX6_tellLine_X6_tellCrowd : GoodIn wsX6_tellLine wsX6_tellCrowd := goodIn_r _ [76, 77, 78, 15, 79, 6, 7, 8, 4, 9, 10, 80, 81, 82, 83, 84, 85, 86, 19, 87, 21, 88, 23, 22, 89, 90, 91, 92, 93, 94, 95, 96, 97, 98, 99, 100, 101, 102, 103, 1, 2, 3, 5, 104, 105, 106, 107, 108, 109, 110, 111, 112, 113, 114, 115, 116, 117, 118, 119, 120, 121, 122, 143, 144, 145, 151, 152, 153, 154, 155, 156, 157, 146, 147, 148, 149, 150, 158, 159, 160] (by decide +kernel) (by decide +kernel)
set_option maxRecDepth 20000 in
theorem gX6_tellLine_X6_tellCrowd : GoodIn wsX6_tellLine (wsV RX6 51 RX6 yX6_tellCrowd wsX6_tellCrowd) := goodIn_app (goodIn_of _ (by decide +kernel)) ggX6_tellLine_X6_tellCrowd
set_option maxRecDepth 20000 in
theorem ggX6_tellLine_X6_tellDoor : GoodIn wsX6_tellLine wsX6_tellDoor := goodIn_r _ [126, 77, 127, 15, 79, 6, 7, 8, 4, 9, 10, 80, 81, 82, 83, 84, 85, 86, 19, 87, 21, 88, 23, 22, 89, 90, 91, 92, 93, 94, 95, 96, 97, 98, 99, 100, 101, 102, 103, 1, 2, 3, 5, 104, 105, 106, 107, 128, 129, 130, 111, 131, 132, 133, 134, 135, 136, 137, 138, 139, 140, 141, 142, 143, 144, 145, 151, 152, 153, 154, 155, 156, 157, 146, 147, 148, 149, 150, 161, 162, 163, 164, 165, 166] (by decide +kernel) (by decide +kernel)
set_option maxRecDepth 20000 in
theorem gX6_tellLine_X6_tellDoor : GoodIn wsX6_tellLine (wsV RX6 55 RX6 yX6_tellDoor wsX6_tellDoor) := goodIn_app (goodIn_of _ (by decide +kernel)) ggX6_tellLine_X6_tellDoor
theorem dX6_tellLine_0 : decode cX6_tellLine 0 = .ok (.aload_n 0, 1) := by decide +kernel
theorem dX6_tellLine_1 : decode cX6_tellLine 1 = .ok (.iload_n 1, 1) := by decide +kernel
theorem dX6_tellLine_2 : decode cX6_tellLine 2 = .ok (.iconst 1, 1) := by decide +kernel
theorem dX6_tellLine_3 : decode cX6_tellLine 3 = .ok (.invokevirtual 41, 3) := by decide +kernel
theorem dX6_tellLine_6 : decode cX6_tellLine 6 = .ok (.ifCond .ne 5, 3) := by decide +kernel
theorem dX6_tellLine_9 : decode cX6_tellLine 9 = .ok (.iconst 0, 1) := by decide +kernel
theorem dX6_tellLine_10 : decode cX6_tellLine 10 = .ok (.ireturn, 1) := by decide +kernel
theorem dX6_tellLine_11 : decode cX6_tellLine 11 = .ok (.aload_n 0, 1) := by decide +kernel
theorem dX6_tellLine_12 : decode cX6_tellLine 12 = .ok (.invokevirtual 45, 3) := by decide +kernel
theorem dX6_tellLine_15 : decode cX6_tellLine 15 = .ok (.istore_n 2, 1) := by decide +kernel
theorem dX6_tellLine_16 : decode cX6_tellLine 16 = .ok (.iload_n 2, 1) := by decide +kernel
theorem dX6_tellLine_17 : decode cX6_tellLine 17 = .ok (.iconst 5, 1) := by decide +kernel
theorem dX6_tellLine_18 : decode cX6_tellLine 18 = .ok (.if_icmp .ne 9, 3) := by decide +kernel
theorem dX6_tellLine_21 : decode cX6_tellLine 21 = .ok (.aload_n 0, 1) := by decide +kernel
theorem dX6_tellLine_22 : decode cX6_tellLine 22 = .ok (.iconst 2, 1) := by decide +kernel
theorem dX6_tellLine_23 : decode cX6_tellLine 23 = .ok (.invokevirtual 48, 3) := by decide +kernel
theorem dX6_tellLine_26 : decode cX6_tellLine 26 = .ok (.ireturn, 1) := by decide +kernel
theorem dX6_tellLine_27 : decode cX6_tellLine 27 = .ok (.iload_n 2, 1) := by decide +kernel
theorem dX6_tellLine_28 : decode cX6_tellLine 28 = .ok (.iconst 4, 1) := by decide +kernel
theorem dX6_tellLine_29 : decode cX6_tellLine 29 = .ok (.if_icmp .ne 10, 3) := by decide +kernel
theorem dX6_tellLine_32 : decode cX6_tellLine 32 = .ok (.aload_n 0, 1) := by decide +kernel
theorem dX6_tellLine_33 : decode cX6_tellLine 33 = .ok (.invokevirtual 51, 3) := by decide +kernel
theorem dX6_tellLine_36 : decode cX6_tellLine 36 = .ok (.goto 8, 3) := by decide +kernel
theorem dX6_tellLine_39 : decode cX6_tellLine 39 = .ok (.aload_n 0, 1) := by decide +kernel
theorem dX6_tellLine_40 : decode cX6_tellLine 40 = .ok (.iload_n 2, 1) := by decide +kernel
theorem dX6_tellLine_41 : decode cX6_tellLine 41 = .ok (.invokevirtual 55, 3) := by decide +kernel
theorem dX6_tellLine_44 : decode cX6_tellLine 44 = .ok (.ireturn, 1) := by decide +kernel
set_option maxRecDepth 20000 in
theorem ggX6_lineBegun_X5_nameIs : GoodIn wsX6_lineBegun wsX5_nameIs := goodIn_r _ [6, 7, 8, 9, 10, 11, 12, 13, 14, 15, 16, 17, 18, 19, 20, 21, 22, 23, 24, 25, 26, 27, 28, 29, 30, 31, 32, 33, 34, 35, 36, 37, 38, 39, 40, 41, 42, 43, 44, 45, 46, 47, 48, 49, 50, 51, 52, 53, 54, 55, 56, 57, 58, 62, 63, 64, 65, 66] (by decide +kernel) (by decide +kernel)
set_option maxRecDepth 20000 in
theorem gX6_lineBegun_X5_nameIs : GoodIn wsX6_lineBegun (wsV RX6 60 RX5 yX5_nameIs wsX5_nameIs) := goodIn_app (goodIn_of _ (by decide +kernel)) ggX6_lineBegun_X5_nameIs
theorem dX6_lineBegun_0 : decode cX6_lineBegun 0 = .ok (.aload_n 0, 1) := by decide +kernel
theorem dX6_lineBegun_1 : decode cX6_lineBegun 1 = .ok (.getfield 9, 3) := by decide +kernel
theorem dX6_lineBegun_4 : decode cX6_lineBegun 4 = .ok (.ldc 58, 2) := by decide +kernel
theorem dX6_lineBegun_6 : decode cX6_lineBegun 6 = .ok (.invokevirtual 60, 3) := by decide +kernel
theorem dX6_lineBegun_9 : decode cX6_lineBegun 9 = .ok (.ifCond .eq 5, 3) := by decide +kernel
theorem dX6_lineBegun_12 : decode cX6_lineBegun 12 = .ok (.iconst 0, 1) := by decide +kernel
theorem dX6_lineBegun_13 : decode cX6_lineBegun 13 = .ok (.ireturn, 1) := by decide +kernel
theorem dX6_lineBegun_14 : decode cX6_lineBegun 14 = .ok (.aload_n 0, 1) := by decide +kernel
theorem dX6_lineBegun_15 : decode cX6_lineBegun 15 = .ok (.getfield 9, 3) := by decide +kernel
theorem dX6_lineBegun_18 : decode cX6_lineBegun 18 = .ok (.ldc 64, 2) := by decide +kernel
theorem dX6_lineBegun_20 : decode cX6_lineBegun 20 = .ok (.invokevirtual 60, 3) := by decide +kernel
theorem dX6_lineBegun_23 : decode cX6_lineBegun 23 = .ok (.ifCond .eq 5, 3) := by decide +kernel
theorem dX6_lineBegun_26 : decode cX6_lineBegun 26 = .ok (.iconst 1, 1) := by decide +kernel
theorem dX6_lineBegun_27 : decode cX6_lineBegun 27 = .ok (.ireturn, 1) := by decide +kernel
theorem dX6_lineBegun_28 : decode cX6_lineBegun 28 = .ok (.aload_n 0, 1) := by decide +kernel
theorem dX6_lineBegun_29 : decode cX6_lineBegun 29 = .ok (.getfield 9, 3) := by decide +kernel
theorem dX6_lineBegun_32 : decode cX6_lineBegun 32 = .ok (.ldc 66, 2) := by decide +kernel
theorem dX6_lineBegun_34 : decode cX6_lineBegun 34 = .ok (.invokevirtual 60, 3) := by decide +kernel
theorem dX6_lineBegun_37 : decode cX6_lineBegun 37 = .ok (.ifCond .eq 5, 3) := by decide +kernel
theorem dX6_lineBegun_40 : decode cX6_lineBegun 40 = .ok (.iconst 2, 1) := by decide +kernel
theorem dX6_lineBegun_41 : decode cX6_lineBegun 41 = .ok (.ireturn, 1) := by decide +kernel
theorem dX6_lineBegun_42 : decode cX6_lineBegun 42 = .ok (.aload_n 0, 1) := by decide +kernel
theorem dX6_lineBegun_43 : decode cX6_lineBegun 43 = .ok (.getfield 9, 3) := by decide +kernel
theorem dX6_lineBegun_46 : decode cX6_lineBegun 46 = .ok (.ldc 68, 2) := by decide +kernel
theorem dX6_lineBegun_48 : decode cX6_lineBegun 48 = .ok (.invokevirtual 60, 3) := by decide +kernel
theorem dX6_lineBegun_51 : decode cX6_lineBegun 51 = .ok (.ifCond .eq 5, 3) := by decide +kernel
theorem dX6_lineBegun_54 : decode cX6_lineBegun 54 = .ok (.iconst 3, 1) := by decide +kernel
theorem dX6_lineBegun_55 : decode cX6_lineBegun 55 = .ok (.ireturn, 1) := by decide +kernel
theorem dX6_lineBegun_56 : decode cX6_lineBegun 56 = .ok (.aload_n 0, 1) := by decide +kernel
theorem dX6_lineBegun_57 : decode cX6_lineBegun 57 = .ok (.getfield 9, 3) := by decide +kernel
theorem dX6_lineBegun_60 : decode cX6_lineBegun 60 = .ok (.ldc 70, 2) := by decide +kernel
theorem dX6_lineBegun_62 : decode cX6_lineBegun 62 = .ok (.invokevirtual 60, 3) := by decide +kernel
theorem dX6_lineBegun_65 : decode cX6_lineBegun 65 = .ok (.ifCond .eq 7, 3) := by decide +kernel
theorem dX6_lineBegun_68 : decode cX6_lineBegun 68 = .ok (.iconst 4, 1) := by decide +kernel
theorem dX6_lineBegun_69 : decode cX6_lineBegun 69 = .ok (.goto 4, 3) := by decide +kernel
theorem dX6_lineBegun_72 : decode cX6_lineBegun 72 = .ok (.iconst 5, 1) := by decide +kernel
theorem dX6_lineBegun_73 : decode cX6_lineBegun 73 = .ok (.ireturn, 1) := by decide +kernel
set_option maxRecDepth 20000 in
theorem ggX6_tellDoor_X6_fail : GoodIn wsX6_tellDoor wsX6_fail := goodIn_r _ [9, 10, 63, 64, 65] (by decide +kernel) (by decide +kernel)
set_option maxRecDepth 20000 in
theorem gX6_tellDoor_X6_fail : GoodIn wsX6_tellDoor (wsV RX6 48 RX6 yX6_fail wsX6_fail) := goodIn_app (goodIn_of _ (by decide +kernel)) ggX6_tellDoor_X6_fail
set_option maxRecDepth 20000 in
theorem ggX6_tellDoor_X6_takeNumber : GoodIn wsX6_tellDoor wsX6_takeNumber := goodIn_r _ [14, 3, 4, 15, 16, 17, 18, 19, 20, 21, 22, 23, 24, 25, 26, 27, 28, 29, 30, 31, 32, 33, 34, 35, 36, 37, 38, 39, 40, 41, 8, 42, 5, 6, 7, 9, 10, 63, 64, 65, 73, 74, 75, 76, 77] (by decide +kernel) (by decide +kernel)
set_option maxRecDepth 20000 in
theorem gX6_tellDoor_X6_takeNumber : GoodIn wsX6_tellDoor (wsV RX6 75 RX6 yX6_takeNumber wsX6_takeNumber) := goodIn_app (goodIn_of _ (by decide +kernel)) ggX6_tellDoor_X6_takeNumber
set_option maxRecDepth 20000 in
theorem ggX6_tellDoor_X6_takeStop : GoodIn wsX6_tellDoor wsX6_takeStop := goodIn_r _ [46, 3, 15, 16, 17, 18, 19, 20, 21, 22, 23, 24, 25, 26, 27, 28, 29, 30, 31, 32, 33, 34, 35, 36, 37, 38, 39, 40, 41, 8, 42, 5, 6, 7, 9, 10, 63, 64, 65, 73, 74, 75, 76, 77] (by decide +kernel) (by decide +kernel)
set_option maxRecDepth 20000 in
theorem gX6_tellDoor_X6_takeStop : GoodIn wsX6_tellDoor (wsV RX6 81 RX6 yX6_takeStop wsX6_takeStop) := goodIn_app (goodIn_of _ (by decide +kernel)) ggX6_tellDoor_X6_takeStop
set_option maxRecDepth 20000 in
theorem ggX6_tellDoor_X2_addDoor : GoodIn wsX6_tellDoor wsX2_addDoor := goodIn_r _ [51, 52, 53, 54, 55, 56, 57, 58, 59, 60, 61, 62, 66, 67, 68, 69, 70, 71, 72, 78, 79, 80, 81, 82, 83] (by decide +kernel) (by decide +kernel)
set_option maxRecDepth 20000 in
theorem gX6_tellDoor_X2_addDoor : GoodIn wsX6_tellDoor (wsV RX6 84 RX2 yX2_addDoor wsX2_addDoor) := goodIn_app (goodIn_of _ (by decide +kernel)) ggX6_tellDoor_X2_addDoor
theorem dX6_tellDoor_0 : decode cX6_tellDoor 0 = .ok (.aload_n 0, 1) := by decide +kernel
theorem dX6_tellDoor_1 : decode cX6_tellDoor 1 = .ok (.getfield 15, 3) := by decide +kernel
theorem dX6_tellDoor_4 : decode cX6_tellDoor 4 = .ok (.getfield 72, 3) := by decide +kernel
theorem dX6_tellDoor_7 : decode cX6_tellDoor 7 = .ok (.iconst 4, 1) := by decide +kernel
theorem dX6_tellDoor_8 : decode cX6_tellDoor 8 = .ok (.if_icmp .lt 9, 3) := by decide +kernel
theorem dX6_tellDoor_11 : decode cX6_tellDoor 11 = .ok (.aload_n 0, 1) := by decide +kernel
theorem dX6_tellDoor_12 : decode cX6_tellDoor 12 = .ok (.iconst 5, 1) := by decide +kernel
theorem dX6_tellDoor_13 : decode cX6_tellDoor 13 = .ok (.invokevirtual 48, 3) := by decide +kernel
theorem dX6_tellDoor_16 : decode cX6_tellDoor 16 = .ok (.ireturn, 1) := by decide +kernel
theorem dX6_tellDoor_17 : decode cX6_tellDoor 17 = .ok (.aload_n 0, 1) := by decide +kernel
theorem dX6_tellDoor_18 : decode cX6_tellDoor 18 = .ok (.iconst 1, 1) := by decide +kernel
theorem dX6_tellDoor_19 : decode cX6_tellDoor 19 = .ok (.bipush 9, 2) := by decide +kernel
theorem dX6_tellDoor_21 : decode cX6_tellDoor 21 = .ok (.invokevirtual 75, 3) := by decide +kernel
theorem dX6_tellDoor_24 : decode cX6_tellDoor 24 = .ok (.ifCond .ne 5, 3) := by decide +kernel
theorem dX6_tellDoor_27 : decode cX6_tellDoor 27 = .ok (.iconst 0, 1) := by decide +kernel
theorem dX6_tellDoor_28 : decode cX6_tellDoor 28 = .ok (.ireturn, 1) := by decide +kernel
theorem dX6_tellDoor_29 : decode cX6_tellDoor 29 = .ok (.aload_n 0, 1) := by decide +kernel
theorem dX6_tellDoor_30 : decode cX6_tellDoor 30 = .ok (.getfield 9, 3) := by decide +kernel
theorem dX6_tellDoor_33 : decode cX6_tellDoor 33 = .ok (.getfield 78, 3) := by decide +kernel
theorem dX6_tellDoor_36 : decode cX6_tellDoor 36 = .ok (.istore_n 2, 1) := by decide +kernel
theorem dX6_tellDoor_37 : decode cX6_tellDoor 37 = .ok (.aload_n 0, 1) := by decide +kernel
theorem dX6_tellDoor_38 : decode cX6_tellDoor 38 = .ok (.iconst 0, 1) := by decide +kernel
theorem dX6_tellDoor_39 : decode cX6_tellDoor 39 = .ok (.bipush 9, 2) := by decide +kernel
theorem dX6_tellDoor_41 : decode cX6_tellDoor 41 = .ok (.invokevirtual 75, 3) := by decide +kernel
theorem dX6_tellDoor_44 : decode cX6_tellDoor 44 = .ok (.ifCond .ne 5, 3) := by decide +kernel
theorem dX6_tellDoor_47 : decode cX6_tellDoor 47 = .ok (.iconst 0, 1) := by decide +kernel
theorem dX6_tellDoor_48 : decode cX6_tellDoor 48 = .ok (.ireturn, 1) := by decide +kernel
theorem dX6_tellDoor_49 : decode cX6_tellDoor 49 = .ok (.aload_n 0, 1) := by decide +kernel
theorem dX6_tellDoor_50 : decode cX6_tellDoor 50 = .ok (.getfield 9, 3) := by decide +kernel
theorem dX6_tellDoor_53 : decode cX6_tellDoor 53 = .ok (.getfield 78, 3) := by decide +kernel
theorem dX6_tellDoor_56 : decode cX6_tellDoor 56 = .ok (.istore_n 3, 1) := by decide +kernel
theorem dX6_tellDoor_57 : decode cX6_tellDoor 57 = .ok (.aload_n 0, 1) := by decide +kernel
theorem dX6_tellDoor_58 : decode cX6_tellDoor 58 = .ok (.invokevirtual 81, 3) := by decide +kernel
theorem dX6_tellDoor_61 : decode cX6_tellDoor 61 = .ok (.ifCond .eq 20, 3) := by decide +kernel
theorem dX6_tellDoor_64 : decode cX6_tellDoor 64 = .ok (.aload_n 0, 1) := by decide +kernel
theorem dX6_tellDoor_65 : decode cX6_tellDoor 65 = .ok (.getfield 15, 3) := by decide +kernel
theorem dX6_tellDoor_68 : decode cX6_tellDoor 68 = .ok (.iload_n 1, 1) := by decide +kernel
theorem dX6_tellDoor_69 : decode cX6_tellDoor 69 = .ok (.iload_n 2, 1) := by decide +kernel
theorem dX6_tellDoor_70 : decode cX6_tellDoor 70 = .ok (.iload_n 3, 1) := by decide +kernel
theorem dX6_tellDoor_71 : decode cX6_tellDoor 71 = .ok (.invokevirtual 84, 3) := by decide +kernel
theorem dX6_tellDoor_74 : decode cX6_tellDoor 74 = .ok (.ifCond .eq 7, 3) := by decide +kernel
theorem dX6_tellDoor_77 : decode cX6_tellDoor 77 = .ok (.iconst 1, 1) := by decide +kernel
theorem dX6_tellDoor_78 : decode cX6_tellDoor 78 = .ok (.goto 4, 3) := by decide +kernel
theorem dX6_tellDoor_81 : decode cX6_tellDoor 81 = .ok (.iconst 0, 1) := by decide +kernel
theorem dX6_tellDoor_82 : decode cX6_tellDoor 82 = .ok (.ireturn, 1) := by decide +kernel
set_option maxRecDepth 20000 in
theorem ggX6_tellCrowd_X6_fail : GoodIn wsX6_tellCrowd wsX6_fail := goodIn_r _ [9, 10, 62, 63, 64] (by decide +kernel) (by decide +kernel)
set_option maxRecDepth 20000 in
theorem gX6_tellCrowd_X6_fail : GoodIn wsX6_tellCrowd (wsV RX6 48 RX6 yX6_fail wsX6_fail) := goodIn_app (goodIn_of _ (by decide +kernel)) ggX6_tellCrowd_X6_fail
set_option maxRecDepth 20000 in
theorem ggX6_tellCrowd_X6_takeNumber : GoodIn wsX6_tellCrowd wsX6_takeNumber := goodIn_r _ [14, 3, 4, 15, 16, 17, 18, 19, 20, 21, 22, 23, 24, 25, 26, 27, 28, 29, 30, 31, 32, 33, 34, 35, 36, 37, 38, 39, 40, 41, 8, 42, 5, 6, 7, 9, 10, 62, 63, 64, 72, 73, 74, 75, 76] (by decide +kernel) (by decide +kernel)
set_option maxRecDepth 20000 in
theorem gX6_tellCrowd_X6_takeNumber : GoodIn wsX6_tellCrowd (wsV RX6 75 RX6 yX6_takeNumber wsX6_takeNumber) := goodIn_app (goodIn_of _ (by decide +kernel)) ggX6_tellCrowd_X6_takeNumber
set_option maxRecDepth 20000 in
theorem ggX6_tellCrowd_X6_takeStop : GoodIn wsX6_tellCrowd wsX6_takeStop := goodIn_r _ [46, 3, 15, 16, 17, 18, 19, 20, 21, 22, 23, 24, 25, 26, 27, 28, 29, 30, 31, 32, 33, 34, 35, 36, 37, 38, 39, 40, 41, 8, 42, 5, 6, 7, 9, 10, 62, 63, 64, 72, 73, 74, 75, 76] (by decide +kernel) (by decide +kernel)
set_option maxRecDepth 20000 in
theorem gX6_tellCrowd_X6_takeStop : GoodIn wsX6_tellCrowd (wsV RX6 81 RX6 yX6_takeStop wsX6_takeStop) := goodIn_app (goodIn_of _ (by decide +kernel)) ggX6_tellCrowd_X6_takeStop
set_option maxRecDepth 20000 in
theorem ggX6_tellCrowd_X2_addCrowd : GoodIn wsX6_tellCrowd wsX2_addCrowd := goodIn_r _ [51, 52, 53, 54, 55, 56, 57, 58, 59, 60, 61, 65, 66, 67, 68, 69, 70, 71, 77, 78, 79] (by decide +kernel) (by decide +kernel)
set_option maxRecDepth 20000 in
theorem gX6_tellCrowd_X2_addCrowd : GoodIn wsX6_tellCrowd (wsV RX6 91 RX2 yX2_addCrowd wsX2_addCrowd) := goodIn_app (goodIn_of _ (by decide +kernel)) ggX6_tellCrowd_X2_addCrowd
theorem dX6_tellCrowd_0 : decode cX6_tellCrowd 0 = .ok (.aload_n 0, 1) := by decide +kernel
theorem dX6_tellCrowd_1 : decode cX6_tellCrowd 1 = .ok (.getfield 15, 3) := by decide +kernel
theorem dX6_tellCrowd_4 : decode cX6_tellCrowd 4 = .ok (.getfield 88, 3) := by decide +kernel
theorem dX6_tellCrowd_7 : decode cX6_tellCrowd 7 = .ok (.bipush 8, 2) := by decide +kernel
theorem dX6_tellCrowd_9 : decode cX6_tellCrowd 9 = .ok (.if_icmp .lt 9, 3) := by decide +kernel
theorem dX6_tellCrowd_12 : decode cX6_tellCrowd 12 = .ok (.aload_n 0, 1) := by decide +kernel
theorem dX6_tellCrowd_13 : decode cX6_tellCrowd 13 = .ok (.iconst 5, 1) := by decide +kernel
theorem dX6_tellCrowd_14 : decode cX6_tellCrowd 14 = .ok (.invokevirtual 48, 3) := by decide +kernel
theorem dX6_tellCrowd_17 : decode cX6_tellCrowd 17 = .ok (.ireturn, 1) := by decide +kernel
theorem dX6_tellCrowd_18 : decode cX6_tellCrowd 18 = .ok (.aload_n 0, 1) := by decide +kernel
theorem dX6_tellCrowd_19 : decode cX6_tellCrowd 19 = .ok (.iconst 0, 1) := by decide +kernel
theorem dX6_tellCrowd_20 : decode cX6_tellCrowd 20 = .ok (.bipush 99, 2) := by decide +kernel
theorem dX6_tellCrowd_22 : decode cX6_tellCrowd 22 = .ok (.invokevirtual 75, 3) := by decide +kernel
theorem dX6_tellCrowd_25 : decode cX6_tellCrowd 25 = .ok (.ifCond .ne 5, 3) := by decide +kernel
theorem dX6_tellCrowd_28 : decode cX6_tellCrowd 28 = .ok (.iconst 0, 1) := by decide +kernel
theorem dX6_tellCrowd_29 : decode cX6_tellCrowd 29 = .ok (.ireturn, 1) := by decide +kernel
theorem dX6_tellCrowd_30 : decode cX6_tellCrowd 30 = .ok (.aload_n 0, 1) := by decide +kernel
theorem dX6_tellCrowd_31 : decode cX6_tellCrowd 31 = .ok (.getfield 9, 3) := by decide +kernel
theorem dX6_tellCrowd_34 : decode cX6_tellCrowd 34 = .ok (.getfield 78, 3) := by decide +kernel
theorem dX6_tellCrowd_37 : decode cX6_tellCrowd 37 = .ok (.istore_n 1, 1) := by decide +kernel
theorem dX6_tellCrowd_38 : decode cX6_tellCrowd 38 = .ok (.aload_n 0, 1) := by decide +kernel
theorem dX6_tellCrowd_39 : decode cX6_tellCrowd 39 = .ok (.iconst 1, 1) := by decide +kernel
theorem dX6_tellCrowd_40 : decode cX6_tellCrowd 40 = .ok (.bipush 9, 2) := by decide +kernel
theorem dX6_tellCrowd_42 : decode cX6_tellCrowd 42 = .ok (.invokevirtual 75, 3) := by decide +kernel
theorem dX6_tellCrowd_45 : decode cX6_tellCrowd 45 = .ok (.ifCond .ne 5, 3) := by decide +kernel
theorem dX6_tellCrowd_48 : decode cX6_tellCrowd 48 = .ok (.iconst 0, 1) := by decide +kernel
theorem dX6_tellCrowd_49 : decode cX6_tellCrowd 49 = .ok (.ireturn, 1) := by decide +kernel
theorem dX6_tellCrowd_50 : decode cX6_tellCrowd 50 = .ok (.aload_n 0, 1) := by decide +kernel
theorem dX6_tellCrowd_51 : decode cX6_tellCrowd 51 = .ok (.getfield 9, 3) := by decide +kernel
theorem dX6_tellCrowd_54 : decode cX6_tellCrowd 54 = .ok (.getfield 78, 3) := by decide +kernel
theorem dX6_tellCrowd_57 : decode cX6_tellCrowd 57 = .ok (.istore_n 2, 1) := by decide +kernel
theorem dX6_tellCrowd_58 : decode cX6_tellCrowd 58 = .ok (.aload_n 0, 1) := by decide +kernel
theorem dX6_tellCrowd_59 : decode cX6_tellCrowd 59 = .ok (.iconst 0, 1) := by decide +kernel
theorem dX6_tellCrowd_60 : decode cX6_tellCrowd 60 = .ok (.bipush 9, 2) := by decide +kernel
theorem dX6_tellCrowd_62 : decode cX6_tellCrowd 62 = .ok (.invokevirtual 75, 3) := by decide +kernel
theorem dX6_tellCrowd_65 : decode cX6_tellCrowd 65 = .ok (.ifCond .ne 5, 3) := by decide +kernel
theorem dX6_tellCrowd_68 : decode cX6_tellCrowd 68 = .ok (.iconst 0, 1) := by decide +kernel
theorem dX6_tellCrowd_69 : decode cX6_tellCrowd 69 = .ok (.ireturn, 1) := by decide +kernel
theorem dX6_tellCrowd_70 : decode cX6_tellCrowd 70 = .ok (.aload_n 0, 1) := by decide +kernel
theorem dX6_tellCrowd_71 : decode cX6_tellCrowd 71 = .ok (.getfield 9, 3) := by decide +kernel
theorem dX6_tellCrowd_74 : decode cX6_tellCrowd 74 = .ok (.getfield 78, 3) := by decide +kernel
theorem dX6_tellCrowd_77 : decode cX6_tellCrowd 77 = .ok (.istore_n 3, 1) := by decide +kernel
theorem dX6_tellCrowd_78 : decode cX6_tellCrowd 78 = .ok (.aload_n 0, 1) := by decide +kernel
theorem dX6_tellCrowd_79 : decode cX6_tellCrowd 79 = .ok (.invokevirtual 81, 3) := by decide +kernel
theorem dX6_tellCrowd_82 : decode cX6_tellCrowd 82 = .ok (.ifCond .eq 20, 3) := by decide +kernel
theorem dX6_tellCrowd_85 : decode cX6_tellCrowd 85 = .ok (.aload_n 0, 1) := by decide +kernel
theorem dX6_tellCrowd_86 : decode cX6_tellCrowd 86 = .ok (.getfield 15, 3) := by decide +kernel
theorem dX6_tellCrowd_89 : decode cX6_tellCrowd 89 = .ok (.iload_n 1, 1) := by decide +kernel
theorem dX6_tellCrowd_90 : decode cX6_tellCrowd 90 = .ok (.iload_n 2, 1) := by decide +kernel
theorem dX6_tellCrowd_91 : decode cX6_tellCrowd 91 = .ok (.iload_n 3, 1) := by decide +kernel
theorem dX6_tellCrowd_92 : decode cX6_tellCrowd 92 = .ok (.invokevirtual 91, 3) := by decide +kernel
theorem dX6_tellCrowd_95 : decode cX6_tellCrowd 95 = .ok (.ifCond .eq 7, 3) := by decide +kernel
theorem dX6_tellCrowd_98 : decode cX6_tellCrowd 98 = .ok (.iconst 1, 1) := by decide +kernel
theorem dX6_tellCrowd_99 : decode cX6_tellCrowd 99 = .ok (.goto 4, 3) := by decide +kernel
theorem dX6_tellCrowd_102 : decode cX6_tellCrowd 102 = .ok (.iconst 0, 1) := by decide +kernel
theorem dX6_tellCrowd_103 : decode cX6_tellCrowd 103 = .ok (.ireturn, 1) := by decide +kernel
set_option maxRecDepth 20000 in
theorem ggX6_takeNumber_X5_advance : GoodIn wsX6_takeNumber wsX5_advance := goodIn_r _ [7, 8, 9, 10, 11, 12, 13, 6, 14, 15, 16, 17, 18, 19, 20, 21, 22, 23, 24, 25, 26, 40, 41, 42, 43, 44] (by decide +kernel) (by decide +kernel)
set_option maxRecDepth 20000 in
theorem gX6_takeNumber_X5_advance : GoodIn wsX6_takeNumber (wsV RX6 33 RX5 yX5_advance wsX5_advance) := goodIn_app (goodIn_of _ (by decide +kernel)) ggX6_takeNumber_X5_advance
set_option maxRecDepth 20000 in
theorem ggX6_takeNumber_X6_expect : GoodIn wsX6_takeNumber wsX6_expect := goodIn_r _ [31, 32, 33, 34, 30, 35, 36, 37, 38, 39] (by decide +kernel) (by decide +kernel)
set_option maxRecDepth 20000 in
theorem gX6_takeNumber_X6_expect : GoodIn wsX6_takeNumber (wsV RX6 41 RX6 yX6_expect wsX6_expect) := goodIn_app (goodIn_of _ (by decide +kernel)) ggX6_takeNumber_X6_expect
set_option maxRecDepth 20000 in
theorem ggX6_takeNumber_X6_fail : GoodIn wsX6_takeNumber wsX6_fail := goodIn_r _ [35, 36, 37, 38, 39] (by decide +kernel) (by decide +kernel)
set_option maxRecDepth 20000 in
theorem gX6_takeNumber_X6_fail : GoodIn wsX6_takeNumber (wsV RX6 48 RX6 yX6_fail wsX6_fail) := goodIn_app (goodIn_of _ (by decide +kernel)) ggX6_takeNumber_X6_fail
theorem dX6_takeNumber_0 : decode cX6_takeNumber 0 = .ok (.aload_n 0, 1) := by decide +kernel
theorem dX6_takeNumber_1 : decode cX6_takeNumber 1 = .ok (.aload_n 0, 1) := by decide +kernel
theorem dX6_takeNumber_2 : decode cX6_takeNumber 2 = .ok (.getfield 9, 3) := by decide +kernel
theorem dX6_takeNumber_5 : decode cX6_takeNumber 5 = .ok (.invokevirtual 33, 3) := by decide +kernel
theorem dX6_takeNumber_8 : decode cX6_takeNumber 8 = .ok (.iconst 2, 1) := by decide +kernel
theorem dX6_takeNumber_9 : decode cX6_takeNumber 9 = .ok (.invokevirtual 41, 3) := by decide +kernel
theorem dX6_takeNumber_12 : decode cX6_takeNumber 12 = .ok (.ifCond .ne 5, 3) := by decide +kernel
theorem dX6_takeNumber_15 : decode cX6_takeNumber 15 = .ok (.iconst 0, 1) := by decide +kernel
theorem dX6_takeNumber_16 : decode cX6_takeNumber 16 = .ok (.ireturn, 1) := by decide +kernel
theorem dX6_takeNumber_17 : decode cX6_takeNumber 17 = .ok (.aload_n 0, 1) := by decide +kernel
theorem dX6_takeNumber_18 : decode cX6_takeNumber 18 = .ok (.getfield 9, 3) := by decide +kernel
theorem dX6_takeNumber_21 : decode cX6_takeNumber 21 = .ok (.getfield 78, 3) := by decide +kernel
theorem dX6_takeNumber_24 : decode cX6_takeNumber 24 = .ok (.iload_n 1, 1) := by decide +kernel
theorem dX6_takeNumber_25 : decode cX6_takeNumber 25 = .ok (.if_icmp .lt 14, 3) := by decide +kernel
theorem dX6_takeNumber_28 : decode cX6_takeNumber 28 = .ok (.aload_n 0, 1) := by decide +kernel
theorem dX6_takeNumber_29 : decode cX6_takeNumber 29 = .ok (.getfield 9, 3) := by decide +kernel
theorem dX6_takeNumber_32 : decode cX6_takeNumber 32 = .ok (.getfield 78, 3) := by decide +kernel
theorem dX6_takeNumber_35 : decode cX6_takeNumber 35 = .ok (.iload_n 2, 1) := by decide +kernel
theorem dX6_takeNumber_36 : decode cX6_takeNumber 36 = .ok (.if_icmp .le 11, 3) := by decide +kernel
theorem dX6_takeNumber_39 : decode cX6_takeNumber 39 = .ok (.aload_n 0, 1) := by decide +kernel
theorem dX6_takeNumber_40 : decode cX6_takeNumber 40 = .ok (.iconst 3, 1) := by decide +kernel
theorem dX6_takeNumber_41 : decode cX6_takeNumber 41 = .ok (.invokevirtual 48, 3) := by decide +kernel
theorem dX6_takeNumber_44 : decode cX6_takeNumber 44 = .ok (.ifCond .eq 7, 3) := by decide +kernel
theorem dX6_takeNumber_47 : decode cX6_takeNumber 47 = .ok (.iconst 1, 1) := by decide +kernel
theorem dX6_takeNumber_48 : decode cX6_takeNumber 48 = .ok (.goto 4, 3) := by decide +kernel
theorem dX6_takeNumber_51 : decode cX6_takeNumber 51 = .ok (.iconst 0, 1) := by decide +kernel
theorem dX6_takeNumber_52 : decode cX6_takeNumber 52 = .ok (.ireturn, 1) := by decide +kernel
set_option maxRecDepth 20000 in
theorem ggX6_takeStop_X5_advance : GoodIn wsX6_takeStop wsX5_advance := goodIn_r _ [6, 7, 8, 9, 10, 11, 12, 5, 13, 14, 15, 16, 17, 18, 19, 20, 21, 22, 23, 24, 25, 39, 40, 41, 42, 43] (by decide +kernel) (by decide +kernel)
set_option maxRecDepth 20000 in
theorem gX6_takeStop_X5_advance : GoodIn wsX6_takeStop (wsV RX6 33 RX5 yX5_advance wsX5_advance) := goodIn_app (goodIn_of _ (by decide +kernel)) ggX6_takeStop_X5_advance
set_option maxRecDepth 20000 in
theorem ggX6_takeStop_X6_expect : GoodIn wsX6_takeStop wsX6_expect := goodIn_r _ [30, 31, 32, 33, 29, 34, 35, 36, 37, 38] (by decide +kernel) (by decide +kernel)
set_option maxRecDepth 20000 in
theorem gX6_takeStop_X6_expect : GoodIn wsX6_takeStop (wsV RX6 41 RX6 yX6_expect wsX6_expect) := goodIn_app (goodIn_of _ (by decide +kernel)) ggX6_takeStop_X6_expect
theorem dX6_takeStop_0 : decode cX6_takeStop 0 = .ok (.aload_n 0, 1) := by decide +kernel
theorem dX6_takeStop_1 : decode cX6_takeStop 1 = .ok (.aload_n 0, 1) := by decide +kernel
theorem dX6_takeStop_2 : decode cX6_takeStop 2 = .ok (.getfield 9, 3) := by decide +kernel
theorem dX6_takeStop_5 : decode cX6_takeStop 5 = .ok (.invokevirtual 33, 3) := by decide +kernel
theorem dX6_takeStop_8 : decode cX6_takeStop 8 = .ok (.iconst 3, 1) := by decide +kernel
theorem dX6_takeStop_9 : decode cX6_takeStop 9 = .ok (.invokevirtual 41, 3) := by decide +kernel
theorem dX6_takeStop_12 : decode cX6_takeStop 12 = .ok (.ireturn, 1) := by decide +kernel
set_option maxRecDepth 20000 in
theorem ggX6_expect_X6_fail : GoodIn wsX6_expect wsX6_fail := goodIn_r _ [5, 6, 7, 8, 9] (by decide +kernel) (by decide +kernel)
set_option maxRecDepth 20000 in
theorem gX6_expect_X6_fail : GoodIn wsX6_expect (wsV RX6 48 RX6 yX6_fail wsX6_fail) := goodIn_app (goodIn_of _ (by decide +kernel)) ggX6_expect_X6_fail
theorem dX6_expect_0 : decode cX6_expect 0 = .ok (.iload_n 1, 1) := by decide +kernel
theorem dX6_expect_1 : decode cX6_expect 1 = .ok (.iconst 4, 1) := by decide +kernel
theorem dX6_expect_2 : decode cX6_expect 2 = .ok (.if_icmp .ne 9, 3) := by decide +kernel
theorem dX6_expect_5 : decode cX6_expect 5 = .ok (.aload_n 0, 1) := by decide +kernel
theorem dX6_expect_6 : decode cX6_expect 6 = .ok (.iconst 1, 1) := by decide +kernel
theorem dX6_expect_7 : decode cX6_expect 7 = .ok (.invokevirtual 48, 3) := by decide +kernel
theorem dX6_expect_10 : decode cX6_expect 10 = .ok (.ireturn, 1) := by decide +kernel
theorem dX6_expect_11 : decode cX6_expect 11 = .ok (.iload_n 1, 1) := by decide +kernel
theorem dX6_expect_12 : decode cX6_expect 12 = .ok (.iload_n 2, 1) := by decide +kernel
theorem dX6_expect_13 : decode cX6_expect 13 = .ok (.if_icmp .eq 11, 3) := by decide +kernel
theorem dX6_expect_16 : decode cX6_expect 16 = .ok (.aload_n 0, 1) := by decide +kernel
theorem dX6_expect_17 : decode cX6_expect 17 = .ok (.iconst 2, 1) := by decide +kernel
theorem dX6_expect_18 : decode cX6_expect 18 = .ok (.invokevirtual 48, 3) := by decide +kernel
theorem dX6_expect_21 : decode cX6_expect 21 = .ok (.ifCond .eq 7, 3) := by decide +kernel
theorem dX6_expect_24 : decode cX6_expect 24 = .ok (.iconst 1, 1) := by decide +kernel
theorem dX6_expect_25 : decode cX6_expect 25 = .ok (.goto 4, 3) := by decide +kernel
theorem dX6_expect_28 : decode cX6_expect 28 = .ok (.iconst 0, 1) := by decide +kernel
theorem dX6_expect_29 : decode cX6_expect 29 = .ok (.ireturn, 1) := by decide +kernel
theorem dX6_fail_0 : decode cX6_fail 0 = .ok (.aload_n 0, 1) := by decide +kernel
theorem dX6_fail_1 : decode cX6_fail 1 = .ok (.iload_n 1, 1) := by decide +kernel
theorem dX6_fail_2 : decode cX6_fail 2 = .ok (.putfield 24, 3) := by decide +kernel
theorem dX6_fail_5 : decode cX6_fail 5 = .ok (.iconst 0, 1) := by decide +kernel
theorem dX6_fail_6 : decode cX6_fail 6 = .ok (.ireturn, 1) := by decide +kernel
theorem dJ6_bitCount_0f7a4_0 : decode cJ6_bitCount_0f7a4 0 = .ok (.iload_n 0, 1) := by decide +kernel
theorem dJ6_bitCount_0f7a4_1 : decode cJ6_bitCount_0f7a4 1 = .ok (.iload_n 0, 1) := by decide +kernel
theorem dJ6_bitCount_0f7a4_2 : decode cJ6_bitCount_0f7a4 2 = .ok (.iconst 1, 1) := by decide +kernel
theorem dJ6_bitCount_0f7a4_3 : decode cJ6_bitCount_0f7a4 3 = .ok (.iushr, 1) := by decide +kernel
theorem dJ6_bitCount_0f7a4_4 : decode cJ6_bitCount_0f7a4 4 = .ok (.ldc_w 265, 3) := by decide +kernel
theorem dJ6_bitCount_0f7a4_7 : decode cJ6_bitCount_0f7a4 7 = .ok (.iand, 1) := by decide +kernel
theorem dJ6_bitCount_0f7a4_8 : decode cJ6_bitCount_0f7a4 8 = .ok (.isub, 1) := by decide +kernel
theorem dJ6_bitCount_0f7a4_9 : decode cJ6_bitCount_0f7a4 9 = .ok (.istore_n 0, 1) := by decide +kernel
theorem dJ6_bitCount_0f7a4_10 : decode cJ6_bitCount_0f7a4 10 = .ok (.iload_n 0, 1) := by decide +kernel
theorem dJ6_bitCount_0f7a4_11 : decode cJ6_bitCount_0f7a4 11 = .ok (.ldc_w 266, 3) := by decide +kernel
theorem dJ6_bitCount_0f7a4_14 : decode cJ6_bitCount_0f7a4 14 = .ok (.iand, 1) := by decide +kernel
theorem dJ6_bitCount_0f7a4_15 : decode cJ6_bitCount_0f7a4 15 = .ok (.iload_n 0, 1) := by decide +kernel
theorem dJ6_bitCount_0f7a4_16 : decode cJ6_bitCount_0f7a4 16 = .ok (.iconst 2, 1) := by decide +kernel
theorem dJ6_bitCount_0f7a4_17 : decode cJ6_bitCount_0f7a4 17 = .ok (.iushr, 1) := by decide +kernel
theorem dJ6_bitCount_0f7a4_18 : decode cJ6_bitCount_0f7a4 18 = .ok (.ldc_w 266, 3) := by decide +kernel
theorem dJ6_bitCount_0f7a4_21 : decode cJ6_bitCount_0f7a4 21 = .ok (.iand, 1) := by decide +kernel
theorem dJ6_bitCount_0f7a4_22 : decode cJ6_bitCount_0f7a4 22 = .ok (.iadd, 1) := by decide +kernel
theorem dJ6_bitCount_0f7a4_23 : decode cJ6_bitCount_0f7a4 23 = .ok (.istore_n 0, 1) := by decide +kernel
theorem dJ6_bitCount_0f7a4_24 : decode cJ6_bitCount_0f7a4 24 = .ok (.iload_n 0, 1) := by decide +kernel
theorem dJ6_bitCount_0f7a4_25 : decode cJ6_bitCount_0f7a4 25 = .ok (.iload_n 0, 1) := by decide +kernel
theorem dJ6_bitCount_0f7a4_26 : decode cJ6_bitCount_0f7a4 26 = .ok (.iconst 4, 1) := by decide +kernel
theorem dJ6_bitCount_0f7a4_27 : decode cJ6_bitCount_0f7a4 27 = .ok (.iushr, 1) := by decide +kernel
theorem dJ6_bitCount_0f7a4_28 : decode cJ6_bitCount_0f7a4 28 = .ok (.iadd, 1) := by decide +kernel
theorem dJ6_bitCount_0f7a4_29 : decode cJ6_bitCount_0f7a4 29 = .ok (.ldc_w 267, 3) := by decide +kernel
theorem dJ6_bitCount_0f7a4_32 : decode cJ6_bitCount_0f7a4 32 = .ok (.iand, 1) := by decide +kernel
theorem dJ6_bitCount_0f7a4_33 : decode cJ6_bitCount_0f7a4 33 = .ok (.istore_n 0, 1) := by decide +kernel
theorem dJ6_bitCount_0f7a4_34 : decode cJ6_bitCount_0f7a4 34 = .ok (.iload_n 0, 1) := by decide +kernel
theorem dJ6_bitCount_0f7a4_35 : decode cJ6_bitCount_0f7a4 35 = .ok (.iload_n 0, 1) := by decide +kernel
theorem dJ6_bitCount_0f7a4_36 : decode cJ6_bitCount_0f7a4 36 = .ok (.bipush 8, 2) := by decide +kernel
theorem dJ6_bitCount_0f7a4_38 : decode cJ6_bitCount_0f7a4 38 = .ok (.iushr, 1) := by decide +kernel
theorem dJ6_bitCount_0f7a4_39 : decode cJ6_bitCount_0f7a4 39 = .ok (.iadd, 1) := by decide +kernel
theorem dJ6_bitCount_0f7a4_40 : decode cJ6_bitCount_0f7a4 40 = .ok (.istore_n 0, 1) := by decide +kernel
theorem dJ6_bitCount_0f7a4_41 : decode cJ6_bitCount_0f7a4 41 = .ok (.iload_n 0, 1) := by decide +kernel
theorem dJ6_bitCount_0f7a4_42 : decode cJ6_bitCount_0f7a4 42 = .ok (.iload_n 0, 1) := by decide +kernel
theorem dJ6_bitCount_0f7a4_43 : decode cJ6_bitCount_0f7a4 43 = .ok (.bipush 16, 2) := by decide +kernel
theorem dJ6_bitCount_0f7a4_45 : decode cJ6_bitCount_0f7a4 45 = .ok (.iushr, 1) := by decide +kernel
theorem dJ6_bitCount_0f7a4_46 : decode cJ6_bitCount_0f7a4 46 = .ok (.iadd, 1) := by decide +kernel
theorem dJ6_bitCount_0f7a4_47 : decode cJ6_bitCount_0f7a4 47 = .ok (.istore_n 0, 1) := by decide +kernel
theorem dJ6_bitCount_0f7a4_48 : decode cJ6_bitCount_0f7a4 48 = .ok (.iload_n 0, 1) := by decide +kernel
theorem dJ6_bitCount_0f7a4_49 : decode cJ6_bitCount_0f7a4 49 = .ok (.bipush 63, 2) := by decide +kernel
theorem dJ6_bitCount_0f7a4_51 : decode cJ6_bitCount_0f7a4 51 = .ok (.iand, 1) := by decide +kernel
theorem dJ6_bitCount_0f7a4_52 : decode cJ6_bitCount_0f7a4 52 = .ok (.ireturn, 1) := by decide +kernel
theorem dJ9_max_7cf53_0 : decode cJ9_max_7cf53 0 = .ok (.iload_n 0, 1) := by decide +kernel
theorem dJ9_max_7cf53_1 : decode cJ9_max_7cf53 1 = .ok (.iload_n 1, 1) := by decide +kernel
theorem dJ9_max_7cf53_2 : decode cJ9_max_7cf53 2 = .ok (.if_icmp .lt 7, 3) := by decide +kernel
theorem dJ9_max_7cf53_5 : decode cJ9_max_7cf53 5 = .ok (.iload_n 0, 1) := by decide +kernel
theorem dJ9_max_7cf53_6 : decode cJ9_max_7cf53 6 = .ok (.goto 4, 3) := by decide +kernel
theorem dJ9_max_7cf53_9 : decode cJ9_max_7cf53 9 = .ok (.iload_n 1, 1) := by decide +kernel
theorem dJ9_max_7cf53_10 : decode cJ9_max_7cf53 10 = .ok (.ireturn, 1) := by decide +kernel
theorem dJ9_max_f86c9_0 : decode cJ9_max_f86c9 0 = .ok (.lload_n 0, 1) := by decide +kernel
theorem dJ9_max_f86c9_1 : decode cJ9_max_f86c9 1 = .ok (.lload_n 2, 1) := by decide +kernel
theorem dJ9_max_f86c9_2 : decode cJ9_max_f86c9 2 = .ok (.lcmp, 1) := by decide +kernel
theorem dJ9_max_f86c9_3 : decode cJ9_max_f86c9 3 = .ok (.ifCond .lt 7, 3) := by decide +kernel
theorem dJ9_max_f86c9_6 : decode cJ9_max_f86c9 6 = .ok (.lload_n 0, 1) := by decide +kernel
theorem dJ9_max_f86c9_7 : decode cJ9_max_f86c9 7 = .ok (.goto 4, 3) := by decide +kernel
theorem dJ9_max_f86c9_10 : decode cJ9_max_f86c9 10 = .ok (.lload_n 2, 1) := by decide +kernel
theorem dJ9_max_f86c9_11 : decode cJ9_max_f86c9 11 = .ok (.lreturn, 1) := by decide +kernel
theorem dJ9_min_7cf53_0 : decode cJ9_min_7cf53 0 = .ok (.iload_n 0, 1) := by decide +kernel
theorem dJ9_min_7cf53_1 : decode cJ9_min_7cf53 1 = .ok (.iload_n 1, 1) := by decide +kernel
theorem dJ9_min_7cf53_2 : decode cJ9_min_7cf53 2 = .ok (.if_icmp .gt 7, 3) := by decide +kernel
theorem dJ9_min_7cf53_5 : decode cJ9_min_7cf53 5 = .ok (.iload_n 0, 1) := by decide +kernel
theorem dJ9_min_7cf53_6 : decode cJ9_min_7cf53 6 = .ok (.goto 4, 3) := by decide +kernel
theorem dJ9_min_7cf53_9 : decode cJ9_min_7cf53 9 = .ok (.iload_n 1, 1) := by decide +kernel
theorem dJ9_min_7cf53_10 : decode cJ9_min_7cf53 10 = .ok (.ireturn, 1) := by decide +kernel
set_option maxRecDepth 20000 in
theorem ggJ0_length_8abf5_J0_coder_7d493 : GoodIn wsJ0_length_8abf5 wsJ0_coder_7d493 := goodIn_r _ [6, 7, 8] (by decide +kernel) (by decide +kernel)
set_option maxRecDepth 20000 in
theorem gJ0_length_8abf5_J0_coder_7d493 : GoodIn wsJ0_length_8abf5 (wsV RJ0 335 RJ0 yJ0_coder_7d493 wsJ0_coder_7d493) := goodIn_app (goodIn_of _ (by decide +kernel)) ggJ0_length_8abf5_J0_coder_7d493
theorem dJ0_length_8abf5_0 : decode cJ0_length_8abf5 0 = .ok (.aload_n 0, 1) := by decide +kernel
theorem dJ0_length_8abf5_1 : decode cJ0_length_8abf5 1 = .ok (.getfield 9, 3) := by decide +kernel
theorem dJ0_length_8abf5_4 : decode cJ0_length_8abf5 4 = .ok (.arraylength, 1) := by decide +kernel
theorem dJ0_length_8abf5_5 : decode cJ0_length_8abf5 5 = .ok (.aload_n 0, 1) := by decide +kernel
theorem dJ0_length_8abf5_6 : decode cJ0_length_8abf5 6 = .ok (.invokevirtual 335, 3) := by decide +kernel
theorem dJ0_length_8abf5_9 : decode cJ0_length_8abf5 9 = .ok (.ishr, 1) := by decide +kernel
theorem dJ0_length_8abf5_10 : decode cJ0_length_8abf5 10 = .ok (.ireturn, 1) := by decide +kernel
set_option maxRecDepth 20000 in
theorem ggJ0_charAt_5068e_J0_isLatin1_aae02 : GoodIn wsJ0_charAt_5068e wsJ0_isLatin1_aae02 := goodIn_r _ [6, 7, 8] (by decide +kernel) (by decide +kernel)
set_option maxRecDepth 20000 in
theorem gJ0_charAt_5068e_J0_isLatin1_aae02 : GoodIn wsJ0_charAt_5068e (wsV RJ0 492 RJ0 yJ0_isLatin1_aae02 wsJ0_isLatin1_aae02) := goodIn_app (goodIn_of _ (by decide +kernel)) ggJ0_charAt_5068e_J0_isLatin1_aae02
set_option maxRecDepth 20000 in
theorem ggJ0_charAt_5068e_J1_charAt_3b067 : GoodIn wsJ0_charAt_5068e wsJ1_charAt_3b067 := goodIn_r _ [12, 13, 14, 5, 15, 16, 17, 18, 19, 20] (by decide +kernel) (by decide +kernel)
set_option maxRecDepth 20000 in
theorem gJ0_charAt_5068e_J1_charAt_3b067 : GoodIn wsJ0_charAt_5068e (va_wsS RJ0 495 yJ1_charAt_3b067 wsJ1_charAt_3b067) := goodIn_app (goodIn_of _ (by decide +kernel)) ggJ0_charAt_5068e_J1_charAt_3b067
set_option maxRecDepth 20000 in
theorem ggJ0_charAt_5068e_J2_charAt_3b067 : GoodIn wsJ0_charAt_5068e wsJ2_charAt_3b067 := goodIn_r _ [24, 25, 26, 23, 27, 28, 29, 30, 31, 14, 5, 15, 16, 17, 18, 19, 20, 32, 33, 34, 35, 36, 37] (by decide +kernel) (by decide +kernel)
set_option maxRecDepth 20000 in
theorem gJ0_charAt_5068e_J2_charAt_3b067 : GoodIn wsJ0_charAt_5068e (va_wsS RJ0 498 yJ2_charAt_3b067 wsJ2_charAt_3b067) := goodIn_app (goodIn_of _ (by decide +kernel)) ggJ0_charAt_5068e_J2_charAt_3b067
theorem dJ0_charAt_5068e_0 : decode cJ0_charAt_5068e 0 = .ok (.aload_n 0, 1) := by decide +kernel
theorem dJ0_charAt_5068e_1 : decode cJ0_charAt_5068e 1 = .ok (.invokevirtual 492, 3) := by decide +kernel
theorem dJ0_charAt_5068e_4 : decode cJ0_charAt_5068e 4 = .ok (.ifCond .eq 12, 3) := by decide +kernel
theorem dJ0_charAt_5068e_7 : decode cJ0_charAt_5068e 7 = .ok (.aload_n 0, 1) := by decide +kernel
theorem dJ0_charAt_5068e_8 : decode cJ0_charAt_5068e 8 = .ok (.getfield 9, 3) := by decide +kernel
theorem dJ0_charAt_5068e_11 : decode cJ0_charAt_5068e 11 = .ok (.iload_n 1, 1) := by decide +kernel
theorem dJ0_charAt_5068e_12 : decode cJ0_charAt_5068e 12 = .ok (.invokestatic 495, 3) := by decide +kernel
theorem dJ0_charAt_5068e_15 : decode cJ0_charAt_5068e 15 = .ok (.ireturn, 1) := by decide +kernel
theorem dJ0_charAt_5068e_16 : decode cJ0_charAt_5068e 16 = .ok (.aload_n 0, 1) := by decide +kernel
theorem dJ0_charAt_5068e_17 : decode cJ0_charAt_5068e 17 = .ok (.getfield 9, 3) := by decide +kernel
theorem dJ0_charAt_5068e_20 : decode cJ0_charAt_5068e 20 = .ok (.iload_n 1, 1) := by decide +kernel
theorem dJ0_charAt_5068e_21 : decode cJ0_charAt_5068e 21 = .ok (.invokestatic 498, 3) := by decide +kernel
theorem dJ0_charAt_5068e_24 : decode cJ0_charAt_5068e 24 = .ok (.ireturn, 1) := by decide +kernel
theorem dJ0_coder_7d493_0 : decode cJ0_coder_7d493 0 = .ok (.getstatic 38, 3) := by decide +kernel
theorem dJ0_coder_7d493_3 : decode cJ0_coder_7d493 3 = .ok (.ifCond .eq 10, 3) := by decide +kernel
theorem dJ0_coder_7d493_6 : decode cJ0_coder_7d493 6 = .ok (.aload_n 0, 1) := by decide +kernel
theorem dJ0_coder_7d493_7 : decode cJ0_coder_7d493 7 = .ok (.getfield 15, 3) := by decide +kernel
theorem dJ0_coder_7d493_10 : decode cJ0_coder_7d493 10 = .ok (.goto 4, 3) := by decide +kernel
theorem dJ0_coder_7d493_13 : decode cJ0_coder_7d493 13 = .ok (.iconst 1, 1) := by decide +kernel
theorem dJ0_coder_7d493_14 : decode cJ0_coder_7d493 14 = .ok (.ireturn, 1) := by decide +kernel
theorem dJ0_isLatin1_aae02_0 : decode cJ0_isLatin1_aae02 0 = .ok (.getstatic 38, 3) := by decide +kernel
theorem dJ0_isLatin1_aae02_3 : decode cJ0_isLatin1_aae02 3 = .ok (.ifCond .eq 14, 3) := by decide +kernel
theorem dJ0_isLatin1_aae02_6 : decode cJ0_isLatin1_aae02 6 = .ok (.aload_n 0, 1) := by decide +kernel
theorem dJ0_isLatin1_aae02_7 : decode cJ0_isLatin1_aae02 7 = .ok (.getfield 15, 3) := by decide +kernel
theorem dJ0_isLatin1_aae02_10 : decode cJ0_isLatin1_aae02 10 = .ok (.ifCond .ne 7, 3) := by decide +kernel
theorem dJ0_isLatin1_aae02_13 : decode cJ0_isLatin1_aae02 13 = .ok (.iconst 1, 1) := by decide +kernel
theorem dJ0_isLatin1_aae02_14 : decode cJ0_isLatin1_aae02 14 = .ok (.goto 4, 3) := by decide +kernel
theorem dJ0_isLatin1_aae02_17 : decode cJ0_isLatin1_aae02 17 = .ok (.iconst 0, 1) := by decide +kernel
theorem dJ0_isLatin1_aae02_18 : decode cJ0_isLatin1_aae02 18 = .ok (.ireturn, 1) := by decide +kernel
set_option maxRecDepth 20000 in
theorem ggJ0_checkIndex_df160_J3_checkIndex_8e157 : GoodIn wsJ0_checkIndex_df160 wsJ3_checkIndex_8e157 := goodIn_r _ [5] (by decide +kernel) (by decide +kernel)
set_option maxRecDepth 20000 in
theorem gJ0_checkIndex_df160_J3_checkIndex_8e157 : GoodIn wsJ0_checkIndex_df160 (va_wsS RJ0 1059 yJ3_checkIndex_8e157 wsJ3_checkIndex_8e157) := goodIn_app (goodIn_of _ (by decide +kernel)) ggJ0_checkIndex_df160_J3_checkIndex_8e157
theorem dJ0_checkIndex_df160_0 : decode cJ0_checkIndex_df160 0 = .ok (.iload_n 0, 1) := by decide +kernel
theorem dJ0_checkIndex_df160_1 : decode cJ0_checkIndex_df160 1 = .ok (.iload_n 1, 1) := by decide +kernel
theorem dJ0_checkIndex_df160_2 : decode cJ0_checkIndex_df160 2 = .ok (.getstatic 1053, 3) := by decide +kernel
theorem dJ0_checkIndex_df160_5 : decode cJ0_checkIndex_df160 5 = .ok (.invokestatic 1059, 3) := by decide +kernel
theorem dJ0_checkIndex_df160_8 : decode cJ0_checkIndex_df160 8 = .ok (.pop, 1) := by decide +kernel
theorem dJ0_checkIndex_df160_9 : decode cJ0_checkIndex_df160 9 = .ok (.return_, 1) := by decide +kernel
set_option maxRecDepth 20000 in
theorem ggJ1_charAt_3b067_J0_checkIndex_df160 : GoodIn wsJ1_charAt_3b067 wsJ0_checkIndex_df160 := goodIn_r _ [4, 5, 6, 7, 8, 9] (by decide +kernel) (by decide +kernel)
set_option maxRecDepth 20000 in
theorem gJ1_charAt_3b067_J0_checkIndex_df160 : GoodIn wsJ1_charAt_3b067 (va_wsS RJ1 9 yJ0_checkIndex_df160 wsJ0_checkIndex_df160) := goodIn_app (goodIn_of _ (by decide +kernel)) ggJ1_charAt_3b067_J0_checkIndex_df160
theorem dJ1_charAt_3b067_0 : decode cJ1_charAt_3b067 0 = .ok (.iload_n 1, 1) := by decide +kernel
theorem dJ1_charAt_3b067_1 : decode cJ1_charAt_3b067 1 = .ok (.aload_n 0, 1) := by decide +kernel
theorem dJ1_charAt_3b067_2 : decode cJ1_charAt_3b067 2 = .ok (.arraylength, 1) := by decide +kernel
theorem dJ1_charAt_3b067_3 : decode cJ1_charAt_3b067 3 = .ok (.invokestatic 9, 3) := by decide +kernel
theorem dJ1_charAt_3b067_6 : decode cJ1_charAt_3b067 6 = .ok (.aload_n 0, 1) := by decide +kernel
theorem dJ1_charAt_3b067_7 : decode cJ1_charAt_3b067 7 = .ok (.iload_n 1, 1) := by decide +kernel
theorem dJ1_charAt_3b067_8 : decode cJ1_charAt_3b067 8 = .ok (.baload, 1) := by decide +kernel
theorem dJ1_charAt_3b067_9 : decode cJ1_charAt_3b067 9 = .ok (.sipush 255, 3) := by decide +kernel
theorem dJ1_charAt_3b067_12 : decode cJ1_charAt_3b067 12 = .ok (.iand, 1) := by decide +kernel
theorem dJ1_charAt_3b067_13 : decode cJ1_charAt_3b067 13 = .ok (.i2c, 1) := by decide +kernel
theorem dJ1_charAt_3b067_14 : decode cJ1_charAt_3b067 14 = .ok (.ireturn, 1) := by decide +kernel
set_option maxRecDepth 20000 in
theorem ggJ2_getChar_3b067_J2_length_9d52b : GoodIn wsJ2_getChar_3b067 wsJ2_length_9d52b := goodIn_r _ [7] (by decide +kernel) (by decide +kernel)
set_option maxRecDepth 20000 in
theorem gJ2_getChar_3b067_J2_length_9d52b : GoodIn wsJ2_getChar_3b067 (va_wsS RJ2 48 yJ2_length_9d52b wsJ2_length_9d52b) := goodIn_app (goodIn_of _ (by decide +kernel)) ggJ2_getChar_3b067_J2_length_9d52b
theorem dJ2_getChar_3b067_0 : decode cJ2_getChar_3b067 0 = .ok (.getstatic 44, 3) := by decide +kernel
theorem dJ2_getChar_3b067_3 : decode cJ2_getChar_3b067 3 = .ok (.ifCond .ne 25, 3) := by decide +kernel
theorem dJ2_getChar_3b067_6 : decode cJ2_getChar_3b067 6 = .ok (.iload_n 1, 1) := by decide +kernel
theorem dJ2_getChar_3b067_7 : decode cJ2_getChar_3b067 7 = .ok (.ifCond .lt 11, 3) := by decide +kernel
theorem dJ2_getChar_3b067_10 : decode cJ2_getChar_3b067 10 = .ok (.iload_n 1, 1) := by decide +kernel
theorem dJ2_getChar_3b067_11 : decode cJ2_getChar_3b067 11 = .ok (.aload_n 0, 1) := by decide +kernel
theorem dJ2_getChar_3b067_12 : decode cJ2_getChar_3b067 12 = .ok (.invokestatic 48, 3) := by decide +kernel
theorem dJ2_getChar_3b067_15 : decode cJ2_getChar_3b067 15 = .ok (.if_icmp .lt 13, 3) := by decide +kernel
theorem dJ2_getChar_3b067_18 : decode cJ2_getChar_3b067 18 = .ok (.new 52, 3) := by decide +kernel
theorem dJ2_getChar_3b067_21 : decode cJ2_getChar_3b067 21 = .ok (.dup, 1) := by decide +kernel
theorem dJ2_getChar_3b067_22 : decode cJ2_getChar_3b067 22 = .ok (.ldc 54, 2) := by decide +kernel
theorem dJ2_getChar_3b067_24 : decode cJ2_getChar_3b067 24 = .ok (.invokespecial 56, 3) := by decide +kernel
theorem dJ2_getChar_3b067_27 : decode cJ2_getChar_3b067 27 = .ok (.athrow, 1) := by decide +kernel
theorem dJ2_getChar_3b067_28 : decode cJ2_getChar_3b067 28 = .ok (.iload_n 1, 1) := by decide +kernel
theorem dJ2_getChar_3b067_29 : decode cJ2_getChar_3b067 29 = .ok (.iconst 1, 1) := by decide +kernel
theorem dJ2_getChar_3b067_30 : decode cJ2_getChar_3b067 30 = .ok (.ishl, 1) := by decide +kernel
theorem dJ2_getChar_3b067_31 : decode cJ2_getChar_3b067 31 = .ok (.istore_n 1, 1) := by decide +kernel
theorem dJ2_getChar_3b067_32 : decode cJ2_getChar_3b067 32 = .ok (.aload_n 0, 1) := by decide +kernel
theorem dJ2_getChar_3b067_33 : decode cJ2_getChar_3b067 33 = .ok (.iload_n 1, 1) := by decide +kernel
theorem dJ2_getChar_3b067_34 : decode cJ2_getChar_3b067 34 = .ok (.iinc 1 1, 3) := by decide +kernel
theorem dJ2_getChar_3b067_37 : decode cJ2_getChar_3b067 37 = .ok (.baload, 1) := by decide +kernel
theorem dJ2_getChar_3b067_38 : decode cJ2_getChar_3b067 38 = .ok (.sipush 255, 3) := by decide +kernel
theorem dJ2_getChar_3b067_41 : decode cJ2_getChar_3b067 41 = .ok (.iand, 1) := by decide +kernel
theorem dJ2_getChar_3b067_42 : decode cJ2_getChar_3b067 42 = .ok (.getstatic 59, 3) := by decide +kernel
theorem dJ2_getChar_3b067_45 : decode cJ2_getChar_3b067 45 = .ok (.ishl, 1) := by decide +kernel
theorem dJ2_getChar_3b067_46 : decode cJ2_getChar_3b067 46 = .ok (.aload_n 0, 1) := by decide +kernel
theorem dJ2_getChar_3b067_47 : decode cJ2_getChar_3b067 47 = .ok (.iload_n 1, 1) := by decide +kernel
theorem dJ2_getChar_3b067_48 : decode cJ2_getChar_3b067 48 = .ok (.baload, 1) := by decide +kernel
theorem dJ2_getChar_3b067_49 : decode cJ2_getChar_3b067 49 = .ok (.sipush 255, 3) := by decide +kernel
theorem dJ2_getChar_3b067_52 : decode cJ2_getChar_3b067 52 = .ok (.iand, 1) := by decide +kernel
theorem dJ2_getChar_3b067_53 : decode cJ2_getChar_3b067 53 = .ok (.getstatic 63, 3) := by decide +kernel
theorem dJ2_getChar_3b067_56 : decode cJ2_getChar_3b067 56 = .ok (.ishl, 1) := by decide +kernel
theorem dJ2_getChar_3b067_57 : decode cJ2_getChar_3b067 57 = .ok (.ior, 1) := by decide +kernel
theorem dJ2_getChar_3b067_58 : decode cJ2_getChar_3b067 58 = .ok (.i2c, 1) := by decide +kernel
theorem dJ2_getChar_3b067_59 : decode cJ2_getChar_3b067 59 = .ok (.ireturn, 1) := by decide +kernel
theorem dJ2_length_9d52b_0 : decode cJ2_length_9d52b 0 = .ok (.aload_n 0, 1) := by decide +kernel
theorem dJ2_length_9d52b_1 : decode cJ2_length_9d52b 1 = .ok (.arraylength, 1) := by decide +kernel
theorem dJ2_length_9d52b_2 : decode cJ2_length_9d52b 2 = .ok (.iconst 1, 1) := by decide +kernel
theorem dJ2_length_9d52b_3 : decode cJ2_length_9d52b 3 = .ok (.ishr, 1) := by decide +kernel
theorem dJ2_length_9d52b_4 : decode cJ2_length_9d52b 4 = .ok (.ireturn, 1) := by decide +kernel
set_option maxRecDepth 20000 in
theorem ggJ2_charAt_3b067_J2_checkIndex_2214a : GoodIn wsJ2_charAt_3b067 wsJ2_checkIndex_2214a := goodIn_r _ [4, 5, 6, 3, 7, 8, 9, 10, 11, 12, 13, 14, 15, 16] (by decide +kernel) (by decide +kernel)
set_option maxRecDepth 20000 in
theorem gJ2_charAt_3b067_J2_checkIndex_2214a : GoodIn wsJ2_charAt_3b067 (va_wsS RJ2 67 yJ2_checkIndex_2214a wsJ2_checkIndex_2214a) := goodIn_app (goodIn_of _ (by decide +kernel)) ggJ2_charAt_3b067_J2_checkIndex_2214a
set_option maxRecDepth 20000 in
theorem ggJ2_charAt_3b067_J2_getChar_3b067 : GoodIn wsJ2_charAt_3b067 wsJ2_getChar_3b067 := goodIn_r _ [19, 20, 21, 22, 5, 6, 3, 7] (by decide +kernel) (by decide +kernel)
set_option maxRecDepth 20000 in
theorem gJ2_charAt_3b067_J2_getChar_3b067 : GoodIn wsJ2_charAt_3b067 (va_wsS RJ2 71 yJ2_getChar_3b067 wsJ2_getChar_3b067) := goodIn_app (goodIn_of _ (by decide +kernel)) ggJ2_charAt_3b067_J2_getChar_3b067
theorem dJ2_charAt_3b067_0 : decode cJ2_charAt_3b067 0 = .ok (.iload_n 1, 1) := by decide +kernel
theorem dJ2_charAt_3b067_1 : decode cJ2_charAt_3b067 1 = .ok (.aload_n 0, 1) := by decide +kernel
theorem dJ2_charAt_3b067_2 : decode cJ2_charAt_3b067 2 = .ok (.invokestatic 67, 3) := by decide +kernel
theorem dJ2_charAt_3b067_5 : decode cJ2_charAt_3b067 5 = .ok (.aload_n 0, 1) := by decide +kernel
theorem dJ2_charAt_3b067_6 : decode cJ2_charAt_3b067 6 = .ok (.iload_n 1, 1) := by decide +kernel
theorem dJ2_charAt_3b067_7 : decode cJ2_charAt_3b067 7 = .ok (.invokestatic 71, 3) := by decide +kernel
theorem dJ2_charAt_3b067_10 : decode cJ2_charAt_3b067 10 = .ok (.ireturn, 1) := by decide +kernel
set_option maxRecDepth 20000 in
theorem ggJ2_checkIndex_2214a_J2_length_9d52b : GoodIn wsJ2_checkIndex_2214a wsJ2_length_9d52b := goodIn_r _ [4] (by decide +kernel) (by decide +kernel)
set_option maxRecDepth 20000 in
theorem gJ2_checkIndex_2214a_J2_length_9d52b : GoodIn wsJ2_checkIndex_2214a (va_wsS RJ2 48 yJ2_length_9d52b wsJ2_length_9d52b) := goodIn_app (goodIn_of _ (by decide +kernel)) ggJ2_checkIndex_2214a_J2_length_9d52b
set_option maxRecDepth 20000 in
theorem ggJ2_checkIndex_2214a_J0_checkIndex_df160 : GoodIn wsJ2_checkIndex_2214a wsJ0_checkIndex_df160 := goodIn_r _ [8, 9, 10, 11, 12, 13] (by decide +kernel) (by decide +kernel)
set_option maxRecDepth 20000 in
theorem gJ2_checkIndex_2214a_J0_checkIndex_df160 : GoodIn wsJ2_checkIndex_2214a (va_wsS RJ2 414 yJ0_checkIndex_df160 wsJ0_checkIndex_df160) := goodIn_app (goodIn_of _ (by decide +kernel)) ggJ2_checkIndex_2214a_J0_checkIndex_df160
theorem dJ2_checkIndex_2214a_0 : decode cJ2_checkIndex_2214a 0 = .ok (.iload_n 0, 1) := by decide +kernel
theorem dJ2_checkIndex_2214a_1 : decode cJ2_checkIndex_2214a 1 = .ok (.aload_n 1, 1) := by decide +kernel
theorem dJ2_checkIndex_2214a_2 : decode cJ2_checkIndex_2214a 2 = .ok (.invokestatic 48, 3) := by decide +kernel
theorem dJ2_checkIndex_2214a_5 : decode cJ2_checkIndex_2214a 5 = .ok (.invokestatic 414, 3) := by decide +kernel
theorem dJ2_checkIndex_2214a_8 : decode cJ2_checkIndex_2214a 8 = .ok (.return_, 1) := by decide +kernel
theorem dJ7_fill_53178_0 : decode cJ7_fill_53178 0 = .ok (.iconst 0, 1) := by decide +kernel
theorem dJ7_fill_53178_1 : decode cJ7_fill_53178 1 = .ok (.istore_n 2, 1) := by decide +kernel
theorem dJ7_fill_53178_2 : decode cJ7_fill_53178 2 = .ok (.aload_n 0, 1) := by decide +kernel
theorem dJ7_fill_53178_3 : decode cJ7_fill_53178 3 = .ok (.arraylength, 1) := by decide +kernel
theorem dJ7_fill_53178_4 : decode cJ7_fill_53178 4 = .ok (.istore_n 3, 1) := by decide +kernel
theorem dJ7_fill_53178_5 : decode cJ7_fill_53178 5 = .ok (.iload_n 2, 1) := by decide +kernel
theorem dJ7_fill_53178_6 : decode cJ7_fill_53178 6 = .ok (.iload_n 3, 1) := by decide +kernel
theorem dJ7_fill_53178_7 : decode cJ7_fill_53178 7 = .ok (.if_icmp .ge 13, 3) := by decide +kernel
theorem dJ7_fill_53178_10 : decode cJ7_fill_53178 10 = .ok (.aload_n 0, 1) := by decide +kernel
theorem dJ7_fill_53178_11 : decode cJ7_fill_53178 11 = .ok (.iload_n 2, 1) := by decide +kernel
theorem dJ7_fill_53178_12 : decode cJ7_fill_53178 12 = .ok (.iload_n 1, 1) := by decide +kernel
theorem dJ7_fill_53178_13 : decode cJ7_fill_53178 13 = .ok (.iastore, 1) := by decide +kernel
theorem dJ7_fill_53178_14 : decode cJ7_fill_53178 14 = .ok (.iinc 2 1, 3) := by decide +kernel
theorem dJ7_fill_53178_17 : decode cJ7_fill_53178 17 = .ok (.goto (-12), 3) := by decide +kernel
theorem dJ7_fill_53178_20 : decode cJ7_fill_53178 20 = .ok (.return_, 1) := by decide +kernel
theorem dJ3_checkIndex_8e157_0 : decode cJ3_checkIndex_8e157 0 = .ok (.iload_n 0, 1) := by decide +kernel
theorem dJ3_checkIndex_8e157_1 : decode cJ3_checkIndex_8e157 1 = .ok (.ifCond .lt 8, 3) := by decide +kernel
theorem dJ3_checkIndex_8e157_4 : decode cJ3_checkIndex_8e157 4 = .ok (.iload_n 0, 1) := by decide +kernel
theorem dJ3_checkIndex_8e157_5 : decode cJ3_checkIndex_8e157 5 = .ok (.iload_n 1, 1) := by decide +kernel
theorem dJ3_checkIndex_8e157_6 : decode cJ3_checkIndex_8e157 6 = .ok (.if_icmp .lt 10, 3) := by decide +kernel
theorem dJ3_checkIndex_8e157_9 : decode cJ3_checkIndex_8e157 9 = .ok (.aload_n 2, 1) := by decide +kernel
theorem dJ3_checkIndex_8e157_10 : decode cJ3_checkIndex_8e157 10 = .ok (.iload_n 0, 1) := by decide +kernel
theorem dJ3_checkIndex_8e157_11 : decode cJ3_checkIndex_8e157 11 = .ok (.iload_n 1, 1) := by decide +kernel
theorem dJ3_checkIndex_8e157_12 : decode cJ3_checkIndex_8e157 12 = .ok (.invokestatic 95, 3) := by decide +kernel
theorem dJ3_checkIndex_8e157_15 : decode cJ3_checkIndex_8e157 15 = .ok (.athrow, 1) := by decide +kernel
theorem dJ3_checkIndex_8e157_16 : decode cJ3_checkIndex_8e157 16 = .ok (.iload_n 0, 1) := by decide +kernel
theorem dJ3_checkIndex_8e157_17 : decode cJ3_checkIndex_8e157 17 = .ok (.ireturn, 1) := by decide +kernel
