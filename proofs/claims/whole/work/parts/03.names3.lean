theorem dX7_fine_0 : decode cX7_fine 0 = .ok (.iload_n 1, 1) := by decide +kernel
theorem dX7_fine_1 : decode cX7_fine 1 = .ok (.iconst 0, 1) := by decide +kernel
theorem dX7_fine_2 : decode cX7_fine 2 = .ok (.bipush 9, 2) := by decide +kernel
theorem dX7_fine_4 : decode cX7_fine 4 = .ok (.invokestatic 59, 3) := by decide +kernel
theorem dX7_fine_7 : decode cX7_fine 7 = .ok (.ifCond .ne 6, 3) := by decide +kernel
theorem dX7_fine_10 : decode cX7_fine 10 = .ok (.bipush (-2), 2) := by decide +kernel
theorem dX7_fine_12 : decode cX7_fine 12 = .ok (.ireturn, 1) := by decide +kernel
theorem dX7_fine_13 : decode cX7_fine 13 = .ok (.aload_n 0, 1) := by decide +kernel
theorem dX7_fine_14 : decode cX7_fine 14 = .ok (.getfield 15, 3) := by decide +kernel
theorem dX7_fine_17 : decode cX7_fine 17 = .ok (.getfield 79, 3) := by decide +kernel
theorem dX7_fine_20 : decode cX7_fine 20 = .ok (.istore_n 2, 1) := by decide +kernel
theorem dX7_fine_21 : decode cX7_fine 21 = .ok (.aload_n 0, 1) := by decide +kernel
theorem dX7_fine_22 : decode cX7_fine 22 = .ok (.getfield 15, 3) := by decide +kernel
theorem dX7_fine_25 : decode cX7_fine 25 = .ok (.iload_n 1, 1) := by decide +kernel
theorem dX7_fine_26 : decode cX7_fine 26 = .ok (.putfield 79, 3) := by decide +kernel
theorem dX7_fine_29 : decode cX7_fine 29 = .ok (.iload_n 2, 1) := by decide +kernel
theorem dX7_fine_30 : decode cX7_fine 30 = .ok (.ireturn, 1) := by decide +kernel
set_option maxRecDepth 20000 in
theorem ggX7_say_X7_within : GoodIn wsX7_say wsX7_within := goodIn_r _ [6] (by decide +kernel) (by decide +kernel)
set_option maxRecDepth 20000 in
theorem gX7_say_X7_within : GoodIn wsX7_say (va_wsS RX7 59 yX7_within wsX7_within) := goodIn_app (goodIn_of _ (by decide +kernel)) ggX7_say_X7_within
set_option maxRecDepth 20000 in
theorem ggX7_say_X5_write : GoodIn wsX7_say wsX5_write := goodIn_r _ [11, 12, 13, 21, 22] (by decide +kernel) (by decide +kernel)
set_option maxRecDepth 20000 in
theorem gX7_say_X5_write : GoodIn wsX7_say (wsV RX7 83 RX5 yX5_write wsX5_write) := goodIn_app (goodIn_of _ (by decide +kernel)) ggX7_say_X5_write
theorem dX7_say_0 : decode cX7_say 0 = .ok (.iload_n 1, 1) := by decide +kernel
theorem dX7_say_1 : decode cX7_say 1 = .ok (.bipush 33, 2) := by decide +kernel
theorem dX7_say_3 : decode cX7_say 3 = .ok (.bipush 126, 2) := by decide +kernel
theorem dX7_say_5 : decode cX7_say 5 = .ok (.invokestatic 59, 3) := by decide +kernel
theorem dX7_say_8 : decode cX7_say 8 = .ok (.ifCond .ne 6, 3) := by decide +kernel
theorem dX7_say_11 : decode cX7_say 11 = .ok (.bipush (-2), 2) := by decide +kernel
theorem dX7_say_13 : decode cX7_say 13 = .ok (.ireturn, 1) := by decide +kernel
theorem dX7_say_14 : decode cX7_say 14 = .ok (.aload_n 0, 1) := by decide +kernel
theorem dX7_say_15 : decode cX7_say 15 = .ok (.getfield 28, 3) := by decide +kernel
theorem dX7_say_18 : decode cX7_say 18 = .ok (.getfield 82, 3) := by decide +kernel
theorem dX7_say_21 : decode cX7_say 21 = .ok (.bipush 48, 2) := by decide +kernel
theorem dX7_say_23 : decode cX7_say 23 = .ok (.if_icmp .lt 6, 3) := by decide +kernel
theorem dX7_say_26 : decode cX7_say 26 = .ok (.bipush (-4), 2) := by decide +kernel
theorem dX7_say_28 : decode cX7_say 28 = .ok (.ireturn, 1) := by decide +kernel
theorem dX7_say_29 : decode cX7_say 29 = .ok (.aload_n 0, 1) := by decide +kernel
theorem dX7_say_30 : decode cX7_say 30 = .ok (.getfield 28, 3) := by decide +kernel
theorem dX7_say_33 : decode cX7_say 33 = .ok (.iload_n 1, 1) := by decide +kernel
theorem dX7_say_34 : decode cX7_say 34 = .ok (.invokevirtual 83, 3) := by decide +kernel
theorem dX7_say_37 : decode cX7_say 37 = .ok (.ireturn, 1) := by decide +kernel
theorem dX7_wipe_0 : decode cX7_wipe 0 = .ok (.aload_n 0, 1) := by decide +kernel
theorem dX7_wipe_1 : decode cX7_wipe 1 = .ok (.getfield 28, 3) := by decide +kernel
theorem dX7_wipe_4 : decode cX7_wipe 4 = .ok (.getfield 82, 3) := by decide +kernel
theorem dX7_wipe_7 : decode cX7_wipe 7 = .ok (.istore_n 1, 1) := by decide +kernel
theorem dX7_wipe_8 : decode cX7_wipe 8 = .ok (.aload_n 0, 1) := by decide +kernel
theorem dX7_wipe_9 : decode cX7_wipe 9 = .ok (.getfield 28, 3) := by decide +kernel
theorem dX7_wipe_12 : decode cX7_wipe 12 = .ok (.iconst 0, 1) := by decide +kernel
theorem dX7_wipe_13 : decode cX7_wipe 13 = .ok (.putfield 82, 3) := by decide +kernel
theorem dX7_wipe_16 : decode cX7_wipe 16 = .ok (.iload_n 1, 1) := by decide +kernel
theorem dX7_wipe_17 : decode cX7_wipe 17 = .ok (.ireturn, 1) := by decide +kernel
set_option maxRecDepth 20000 in
theorem ggX7_fault_X5_firstFault : GoodIn wsX7_fault wsX5_firstFault := goodIn_r _ [6, 7, 8, 9, 10, 5, 11, 19, 20] (by decide +kernel) (by decide +kernel)
set_option maxRecDepth 20000 in
theorem gX7_fault_X5_firstFault : GoodIn wsX7_fault (wsV RX7 87 RX5 yX5_firstFault wsX5_firstFault) := goodIn_app (goodIn_of _ (by decide +kernel)) ggX7_fault_X5_firstFault
theorem dX7_fault_0 : decode cX7_fault 0 = .ok (.aload_n 0, 1) := by decide +kernel
theorem dX7_fault_1 : decode cX7_fault 1 = .ok (.getfield 28, 3) := by decide +kernel
theorem dX7_fault_4 : decode cX7_fault 4 = .ok (.invokevirtual 87, 3) := by decide +kernel
theorem dX7_fault_7 : decode cX7_fault 7 = .ok (.ireturn, 1) := by decide +kernel
set_option maxRecDepth 20000 in
theorem ggX7_enact_X5_firstFault : GoodIn wsX7_enact wsX5_firstFault := goodIn_r _ [11, 12, 13, 14, 15, 10, 16, 48, 49] (by decide +kernel) (by decide +kernel)
set_option maxRecDepth 20000 in
theorem gX7_enact_X5_firstFault : GoodIn wsX7_enact (wsV RX7 87 RX5 yX5_firstFault wsX5_firstFault) := goodIn_app (goodIn_of _ (by decide +kernel)) ggX7_enact_X5_firstFault
set_option maxRecDepth 20000 in
theorem ggX7_enact_X4_take : GoodIn wsX7_enact wsX4_take := goodIn_r _ [21, 22, 23, 24, 25, 26, 27, 28, 29, 30, 31, 50, 51] (by decide +kernel) (by decide +kernel)
set_option maxRecDepth 20000 in
theorem gX7_enact_X4_take : GoodIn wsX7_enact (wsV RX7 99 RX4 yX4_take wsX4_take) := goodIn_app (goodIn_of _ (by decide +kernel)) ggX7_enact_X4_take
theorem dX7_enact_0 : decode cX7_enact 0 = .ok (.aload_n 0, 1) := by decide +kernel
theorem dX7_enact_1 : decode cX7_enact 1 = .ok (.getfield 28, 3) := by decide +kernel
theorem dX7_enact_4 : decode cX7_enact 4 = .ok (.invokevirtual 87, 3) := by decide +kernel
theorem dX7_enact_7 : decode cX7_enact 7 = .ok (.bipush (-6), 2) := by decide +kernel
theorem dX7_enact_9 : decode cX7_enact 9 = .ok (.if_icmp .eq 6, 3) := by decide +kernel
theorem dX7_enact_12 : decode cX7_enact 12 = .ok (.bipush (-5), 2) := by decide +kernel
theorem dX7_enact_14 : decode cX7_enact 14 = .ok (.ireturn, 1) := by decide +kernel
theorem dX7_enact_15 : decode cX7_enact 15 = .ok (.aload_n 0, 1) := by decide +kernel
theorem dX7_enact_16 : decode cX7_enact 16 = .ok (.getfield 15, 3) := by decide +kernel
theorem dX7_enact_19 : decode cX7_enact 19 = .ok (.getfield 91, 3) := by decide +kernel
theorem dX7_enact_22 : decode cX7_enact 22 = .ok (.aload_n 0, 1) := by decide +kernel
theorem dX7_enact_23 : decode cX7_enact 23 = .ok (.getfield 28, 3) := by decide +kernel
theorem dX7_enact_26 : decode cX7_enact 26 = .ok (.getfield 95, 3) := by decide +kernel
theorem dX7_enact_29 : decode cX7_enact 29 = .ok (.aload_n 0, 1) := by decide +kernel
theorem dX7_enact_30 : decode cX7_enact 30 = .ok (.getfield 28, 3) := by decide +kernel
theorem dX7_enact_33 : decode cX7_enact 33 = .ok (.getfield 82, 3) := by decide +kernel
theorem dX7_enact_36 : decode cX7_enact 36 = .ok (.invokevirtual 99, 3) := by decide +kernel
theorem dX7_enact_39 : decode cX7_enact 39 = .ok (.aload_n 0, 1) := by decide +kernel
theorem dX7_enact_40 : decode cX7_enact 40 = .ok (.getfield 28, 3) := by decide +kernel
theorem dX7_enact_43 : decode cX7_enact 43 = .ok (.iconst 0, 1) := by decide +kernel
theorem dX7_enact_44 : decode cX7_enact 44 = .ok (.putfield 82, 3) := by decide +kernel
theorem dX7_enact_47 : decode cX7_enact 47 = .ok (.aload_n 0, 1) := by decide +kernel
theorem dX7_enact_48 : decode cX7_enact 48 = .ok (.getfield 15, 3) := by decide +kernel
theorem dX7_enact_51 : decode cX7_enact 51 = .ok (.getfield 91, 3) := by decide +kernel
theorem dX7_enact_54 : decode cX7_enact 54 = .ok (.getfield 105, 3) := by decide +kernel
theorem dX7_enact_57 : decode cX7_enact 57 = .ok (.ireturn, 1) := by decide +kernel
set_option maxRecDepth 20000 in
theorem ggX7_hour_X7_isHour : GoodIn wsX7_hour wsX7_isHour := goodIn_r _ [7] (by decide +kernel) (by decide +kernel)
set_option maxRecDepth 20000 in
theorem gX7_hour_X7_isHour : GoodIn wsX7_hour (va_wsS RX7 108 yX7_isHour wsX7_isHour) := goodIn_app (goodIn_of _ (by decide +kernel)) ggX7_hour_X7_isHour
set_option maxRecDepth 20000 in
theorem ggX7_hour_X7_within : GoodIn wsX7_hour wsX7_within := goodIn_r _ [10] (by decide +kernel) (by decide +kernel)
set_option maxRecDepth 20000 in
theorem gX7_hour_X7_within : GoodIn wsX7_hour (va_wsS RX7 59 yX7_within wsX7_within) := goodIn_app (goodIn_of _ (by decide +kernel)) ggX7_hour_X7_within
set_option maxRecDepth 20000 in
theorem ggX7_hour_X0_hourAfter : GoodIn wsX7_hour wsX0_hourAfter := goodIn_r _ [15, 16, 17, 18, 19, 20, 14, 21, 22, 23, 24, 25, 26, 27, 28, 29, 30, 31, 6, 32, 33, 34, 35, 36, 37, 38, 39, 40, 41, 42, 43, 44, 45, 46, 47, 48, 49, 50, 51, 52, 53, 54, 55, 56, 57, 58, 59, 76, 77, 78, 79, 80, 67, 68, 69, 70, 71, 72, 73, 74, 75, 81, 82] (by decide +kernel) (by decide +kernel)
set_option maxRecDepth 20000 in
theorem gX7_hour_X0_hourAfter : GoodIn wsX7_hour (wsV RX7 114 RX0 yX0_hourAfter wsX0_hourAfter) := goodIn_app (goodIn_of _ (by decide +kernel)) ggX7_hour_X0_hourAfter
theorem dX7_hour_0 : decode cX7_hour 0 = .ok (.iload_n 1, 1) := by decide +kernel
theorem dX7_hour_1 : decode cX7_hour 1 = .ok (.invokestatic 108, 3) := by decide +kernel
theorem dX7_hour_4 : decode cX7_hour 4 = .ok (.ifCond .eq 13, 3) := by decide +kernel
theorem dX7_hour_7 : decode cX7_hour 7 = .ok (.iload_n 2, 1) := by decide +kernel
theorem dX7_hour_8 : decode cX7_hour 8 = .ok (.iconst 0, 1) := by decide +kernel
theorem dX7_hour_9 : decode cX7_hour 9 = .ok (.bipush 99, 2) := by decide +kernel
theorem dX7_hour_11 : decode cX7_hour 11 = .ok (.invokestatic 59, 3) := by decide +kernel
theorem dX7_hour_14 : decode cX7_hour 14 = .ok (.ifCond .ne 6, 3) := by decide +kernel
theorem dX7_hour_17 : decode cX7_hour 17 = .ok (.bipush (-2), 2) := by decide +kernel
theorem dX7_hour_19 : decode cX7_hour 19 = .ok (.ireturn, 1) := by decide +kernel
theorem dX7_hour_20 : decode cX7_hour 20 = .ok (.aload_n 0, 1) := by decide +kernel
theorem dX7_hour_21 : decode cX7_hour 21 = .ok (.getfield 21, 3) := by decide +kernel
theorem dX7_hour_24 : decode cX7_hour 24 = .ok (.iload_n 1, 1) := by decide +kernel
theorem dX7_hour_25 : decode cX7_hour 25 = .ok (.iload_n 2, 1) := by decide +kernel
theorem dX7_hour_26 : decode cX7_hour 26 = .ok (.aload_n 0, 1) := by decide +kernel
theorem dX7_hour_27 : decode cX7_hour 27 = .ok (.getfield 15, 3) := by decide +kernel
theorem dX7_hour_30 : decode cX7_hour 30 = .ok (.getfield 111, 3) := by decide +kernel
theorem dX7_hour_33 : decode cX7_hour 33 = .ok (.invokevirtual 114, 3) := by decide +kernel
theorem dX7_hour_36 : decode cX7_hour 36 = .ok (.ireturn, 1) := by decide +kernel
set_option maxRecDepth 20000 in
theorem ggX7_comes_X3_has : GoodIn wsX7_comes wsX3_has := goodIn_r _ [9, 10, 75, 76, 77, 78, 79, 80, 81, 82, 83] (by decide +kernel) (by decide +kernel)
set_option maxRecDepth 20000 in
theorem gX7_comes_X3_has : GoodIn wsX7_comes (wsV RX7 71 RX3 yX3_has wsX3_has) := goodIn_app (goodIn_of _ (by decide +kernel)) ggX7_comes_X3_has
set_option maxRecDepth 20000 in
theorem ggX7_comes_X7_isHour : GoodIn wsX7_comes wsX7_isHour := goodIn_r _ [14] (by decide +kernel) (by decide +kernel)
set_option maxRecDepth 20000 in
theorem gX7_comes_X7_isHour : GoodIn wsX7_comes (va_wsS RX7 108 yX7_isHour wsX7_isHour) := goodIn_app (goodIn_of _ (by decide +kernel)) ggX7_comes_X7_isHour
set_option maxRecDepth 20000 in
theorem ggX7_comes_X7_within : GoodIn wsX7_comes wsX7_within := goodIn_r _ [17] (by decide +kernel) (by decide +kernel)
set_option maxRecDepth 20000 in
theorem gX7_comes_X7_within : GoodIn wsX7_comes (va_wsS RX7 59 yX7_within wsX7_within) := goodIn_app (goodIn_of _ (by decide +kernel)) ggX7_comes_X7_within
set_option maxRecDepth 20000 in
theorem ggX7_comes_X0_hourAfter : GoodIn wsX7_comes wsX0_hourAfter := goodIn_r _ [22, 23, 24, 25, 26, 27, 21, 28, 29, 30, 31, 32, 33, 34, 35, 36, 37, 38, 13, 39, 40, 41, 42, 43, 44, 45, 46, 47, 48, 49, 50, 51, 52, 53, 54, 55, 56, 57, 58, 59, 60, 61, 62, 63, 64, 65, 66, 84, 85, 86, 87, 88, 75, 76, 77, 78, 79, 80, 81, 82, 83, 89, 90] (by decide +kernel) (by decide +kernel)
set_option maxRecDepth 20000 in
theorem gX7_comes_X0_hourAfter : GoodIn wsX7_comes (wsV RX7 114 RX0 yX0_hourAfter wsX0_hourAfter) := goodIn_app (goodIn_of _ (by decide +kernel)) ggX7_comes_X0_hourAfter
set_option maxRecDepth 20000 in
theorem ggX7_comes_X7_comingAt : GoodIn wsX7_comes wsX7_comingAt := goodIn_r _ [39, 40, 36, 33, 37, 41, 32, 34] (by decide +kernel) (by decide +kernel)
set_option maxRecDepth 20000 in
theorem gX7_comes_X7_comingAt : GoodIn wsX7_comes (va_wsS RX7 121 yX7_comingAt wsX7_comingAt) := goodIn_app (goodIn_of _ (by decide +kernel)) ggX7_comes_X7_comingAt
theorem dX7_comes_0 : decode cX7_comes 0 = .ok (.aload_n 0, 1) := by decide +kernel
theorem dX7_comes_1 : decode cX7_comes 1 = .ok (.getfield 15, 3) := by decide +kernel
theorem dX7_comes_4 : decode cX7_comes 4 = .ok (.iload_n 1, 1) := by decide +kernel
theorem dX7_comes_5 : decode cX7_comes 5 = .ok (.invokevirtual 71, 3) := by decide +kernel
theorem dX7_comes_8 : decode cX7_comes 8 = .ok (.ifCond .ne 5, 3) := by decide +kernel
theorem dX7_comes_11 : decode cX7_comes 11 = .ok (.iconst (-1), 1) := by decide +kernel
theorem dX7_comes_12 : decode cX7_comes 12 = .ok (.ireturn, 1) := by decide +kernel
theorem dX7_comes_13 : decode cX7_comes 13 = .ok (.iload_n 2, 1) := by decide +kernel
theorem dX7_comes_14 : decode cX7_comes 14 = .ok (.invokestatic 108, 3) := by decide +kernel
theorem dX7_comes_17 : decode cX7_comes 17 = .ok (.ifCond .eq 13, 3) := by decide +kernel
theorem dX7_comes_20 : decode cX7_comes 20 = .ok (.iload_n 3, 1) := by decide +kernel
theorem dX7_comes_21 : decode cX7_comes 21 = .ok (.iconst 0, 1) := by decide +kernel
theorem dX7_comes_22 : decode cX7_comes 22 = .ok (.bipush 99, 2) := by decide +kernel
theorem dX7_comes_24 : decode cX7_comes 24 = .ok (.invokestatic 59, 3) := by decide +kernel
theorem dX7_comes_27 : decode cX7_comes 27 = .ok (.ifCond .ne 6, 3) := by decide +kernel
theorem dX7_comes_30 : decode cX7_comes 30 = .ok (.bipush (-2), 2) := by decide +kernel
theorem dX7_comes_32 : decode cX7_comes 32 = .ok (.ireturn, 1) := by decide +kernel
theorem dX7_comes_33 : decode cX7_comes 33 = .ok (.aload_n 0, 1) := by decide +kernel
theorem dX7_comes_34 : decode cX7_comes 34 = .ok (.getfield 21, 3) := by decide +kernel
theorem dX7_comes_37 : decode cX7_comes 37 = .ok (.iload_n 2, 1) := by decide +kernel
theorem dX7_comes_38 : decode cX7_comes 38 = .ok (.iload_n 3, 1) := by decide +kernel
theorem dX7_comes_39 : decode cX7_comes 39 = .ok (.aload_n 0, 1) := by decide +kernel
theorem dX7_comes_40 : decode cX7_comes 40 = .ok (.getfield 15, 3) := by decide +kernel
theorem dX7_comes_43 : decode cX7_comes 43 = .ok (.getfield 111, 3) := by decide +kernel
theorem dX7_comes_46 : decode cX7_comes 46 = .ok (.invokevirtual 114, 3) := by decide +kernel
theorem dX7_comes_49 : decode cX7_comes 49 = .ok (.istore 4, 2) := by decide +kernel
theorem dX7_comes_51 : decode cX7_comes 51 = .ok (.iload 4, 2) := by decide +kernel
theorem dX7_comes_53 : decode cX7_comes 53 = .ok (.aload_n 0, 1) := by decide +kernel
theorem dX7_comes_54 : decode cX7_comes 54 = .ok (.getfield 15, 3) := by decide +kernel
theorem dX7_comes_57 : decode cX7_comes 57 = .ok (.getfield 118, 3) := by decide +kernel
theorem dX7_comes_60 : decode cX7_comes 60 = .ok (.iload_n 1, 1) := by decide +kernel
theorem dX7_comes_61 : decode cX7_comes 61 = .ok (.iaload, 1) := by decide +kernel
theorem dX7_comes_62 : decode cX7_comes 62 = .ok (.aload_n 0, 1) := by decide +kernel
theorem dX7_comes_63 : decode cX7_comes 63 = .ok (.getfield 15, 3) := by decide +kernel
theorem dX7_comes_66 : decode cX7_comes 66 = .ok (.getfield 111, 3) := by decide +kernel
theorem dX7_comes_69 : decode cX7_comes 69 = .ok (.iload_n 1, 1) := by decide +kernel
theorem dX7_comes_70 : decode cX7_comes 70 = .ok (.iaload, 1) := by decide +kernel
theorem dX7_comes_71 : decode cX7_comes 71 = .ok (.invokestatic 121, 3) := by decide +kernel
theorem dX7_comes_74 : decode cX7_comes 74 = .ok (.ireturn, 1) := by decide +kernel
set_option maxRecDepth 20000 in
theorem ggX7_tends_X7_isHour : GoodIn wsX7_tends wsX7_isHour := goodIn_r _ [10] (by decide +kernel) (by decide +kernel)
set_option maxRecDepth 20000 in
theorem gX7_tends_X7_isHour : GoodIn wsX7_tends (va_wsS RX7 108 yX7_isHour wsX7_isHour) := goodIn_app (goodIn_of _ (by decide +kernel)) ggX7_tends_X7_isHour
set_option maxRecDepth 20000 in
theorem ggX7_tends_X7_within : GoodIn wsX7_tends wsX7_within := goodIn_r _ [13] (by decide +kernel) (by decide +kernel)
set_option maxRecDepth 20000 in
theorem gX7_tends_X7_within : GoodIn wsX7_tends (va_wsS RX7 59 yX7_within wsX7_within) := goodIn_app (goodIn_of _ (by decide +kernel)) ggX7_tends_X7_within
set_option maxRecDepth 20000 in
theorem ggX7_tends_X6_follow : GoodIn wsX7_tends wsX6_follow := goodIn_r _ [18, 19, 20, 21, 22, 23, 24, 25, 26, 27, 28, 29, 30, 31, 32, 33, 34, 35, 36, 37, 38, 39, 40, 41, 42, 43, 44, 45, 9, 46, 47, 48, 49, 50, 51, 52, 53, 54, 55, 56, 57, 58, 59, 60, 61, 62, 63, 64, 65, 66, 67, 68, 69, 70, 71, 72, 73, 90, 91, 92, 93, 94, 95, 96, 97, 98, 99, 100, 81, 82, 83, 84, 85, 86, 87, 88, 89, 101, 102] (by decide +kernel) (by decide +kernel)
set_option maxRecDepth 20000 in
theorem gX7_tends_X6_follow : GoodIn wsX7_tends (wsV RX7 125 RX6 yX6_follow wsX6_follow) := goodIn_app (goodIn_of _ (by decide +kernel)) ggX7_tends_X6_follow
theorem dX7_tends_0 : decode cX7_tends 0 = .ok (.iload_n 1, 1) := by decide +kernel
theorem dX7_tends_1 : decode cX7_tends 1 = .ok (.invokestatic 108, 3) := by decide +kernel
theorem dX7_tends_4 : decode cX7_tends 4 = .ok (.ifCond .eq 12, 3) := by decide +kernel
theorem dX7_tends_7 : decode cX7_tends 7 = .ok (.iload_n 2, 1) := by decide +kernel
theorem dX7_tends_8 : decode cX7_tends 8 = .ok (.iconst 0, 1) := by decide +kernel
theorem dX7_tends_9 : decode cX7_tends 9 = .ok (.iconst 2, 1) := by decide +kernel
theorem dX7_tends_10 : decode cX7_tends 10 = .ok (.invokestatic 59, 3) := by decide +kernel
theorem dX7_tends_13 : decode cX7_tends 13 = .ok (.ifCond .ne 6, 3) := by decide +kernel
theorem dX7_tends_16 : decode cX7_tends 16 = .ok (.bipush (-2), 2) := by decide +kernel
theorem dX7_tends_18 : decode cX7_tends 18 = .ok (.ireturn, 1) := by decide +kernel
theorem dX7_tends_19 : decode cX7_tends 19 = .ok (.aload_n 0, 1) := by decide +kernel
theorem dX7_tends_20 : decode cX7_tends 20 = .ok (.getfield 37, 3) := by decide +kernel
theorem dX7_tends_23 : decode cX7_tends 23 = .ok (.aload_n 0, 1) := by decide +kernel
theorem dX7_tends_24 : decode cX7_tends 24 = .ok (.getfield 15, 3) := by decide +kernel
theorem dX7_tends_27 : decode cX7_tends 27 = .ok (.getfield 91, 3) := by decide +kernel
theorem dX7_tends_30 : decode cX7_tends 30 = .ok (.iload_n 1, 1) := by decide +kernel
theorem dX7_tends_31 : decode cX7_tends 31 = .ok (.invokevirtual 125, 3) := by decide +kernel
theorem dX7_tends_34 : decode cX7_tends 34 = .ok (.iload_n 2, 1) := by decide +kernel
theorem dX7_tends_35 : decode cX7_tends 35 = .ok (.ifCond .ne 11, 3) := by decide +kernel
theorem dX7_tends_38 : decode cX7_tends 38 = .ok (.aload_n 0, 1) := by decide +kernel
theorem dX7_tends_39 : decode cX7_tends 39 = .ok (.getfield 37, 3) := by decide +kernel
theorem dX7_tends_42 : decode cX7_tends 42 = .ok (.getfield 129, 3) := by decide +kernel
theorem dX7_tends_45 : decode cX7_tends 45 = .ok (.ireturn, 1) := by decide +kernel
theorem dX7_tends_46 : decode cX7_tends 46 = .ok (.iload_n 2, 1) := by decide +kernel
theorem dX7_tends_47 : decode cX7_tends 47 = .ok (.iconst 1, 1) := by decide +kernel
theorem dX7_tends_48 : decode cX7_tends 48 = .ok (.if_icmp .ne 13, 3) := by decide +kernel
theorem dX7_tends_51 : decode cX7_tends 51 = .ok (.aload_n 0, 1) := by decide +kernel
theorem dX7_tends_52 : decode cX7_tends 52 = .ok (.getfield 37, 3) := by decide +kernel
theorem dX7_tends_55 : decode cX7_tends 55 = .ok (.getfield 132, 3) := by decide +kernel
theorem dX7_tends_58 : decode cX7_tends 58 = .ok (.goto 10, 3) := by decide +kernel
theorem dX7_tends_61 : decode cX7_tends 61 = .ok (.aload_n 0, 1) := by decide +kernel
theorem dX7_tends_62 : decode cX7_tends 62 = .ok (.getfield 37, 3) := by decide +kernel
theorem dX7_tends_65 : decode cX7_tends 65 = .ok (.getfield 133, 3) := by decide +kernel
theorem dX7_tends_68 : decode cX7_tends 68 = .ok (.ireturn, 1) := by decide +kernel
set_option maxRecDepth 20000 in
theorem ggX7_paid_X3_has : GoodIn wsX7_paid wsX3_has := goodIn_r _ [8, 9, 21, 22, 23, 24, 25, 26, 27, 28, 29] (by decide +kernel) (by decide +kernel)
set_option maxRecDepth 20000 in
theorem gX7_paid_X3_has : GoodIn wsX7_paid (wsV RX7 71 RX3 yX3_has wsX3_has) := goodIn_app (goodIn_of _ (by decide +kernel)) ggX7_paid_X3_has
set_option maxRecDepth 20000 in
theorem ggX7_paid_X7_within : GoodIn wsX7_paid wsX7_within := goodIn_r _ [13] (by decide +kernel) (by decide +kernel)
set_option maxRecDepth 20000 in
theorem gX7_paid_X7_within : GoodIn wsX7_paid (va_wsS RX7 59 yX7_within wsX7_within) := goodIn_app (goodIn_of _ (by decide +kernel)) ggX7_paid_X7_within
theorem dX7_paid_0 : decode cX7_paid 0 = .ok (.aload_n 0, 1) := by decide +kernel
theorem dX7_paid_1 : decode cX7_paid 1 = .ok (.getfield 15, 3) := by decide +kernel
theorem dX7_paid_4 : decode cX7_paid 4 = .ok (.iload_n 1, 1) := by decide +kernel
theorem dX7_paid_5 : decode cX7_paid 5 = .ok (.invokevirtual 71, 3) := by decide +kernel
theorem dX7_paid_8 : decode cX7_paid 8 = .ok (.ifCond .ne 5, 3) := by decide +kernel
theorem dX7_paid_11 : decode cX7_paid 11 = .ok (.iconst (-1), 1) := by decide +kernel
theorem dX7_paid_12 : decode cX7_paid 12 = .ok (.ireturn, 1) := by decide +kernel
theorem dX7_paid_13 : decode cX7_paid 13 = .ok (.iload_n 2, 1) := by decide +kernel
theorem dX7_paid_14 : decode cX7_paid 14 = .ok (.iconst 0, 1) := by decide +kernel
theorem dX7_paid_15 : decode cX7_paid 15 = .ok (.bipush 99, 2) := by decide +kernel
theorem dX7_paid_17 : decode cX7_paid 17 = .ok (.invokestatic 59, 3) := by decide +kernel
theorem dX7_paid_20 : decode cX7_paid 20 = .ok (.ifCond .ne 6, 3) := by decide +kernel
theorem dX7_paid_23 : decode cX7_paid 23 = .ok (.bipush (-2), 2) := by decide +kernel
theorem dX7_paid_25 : decode cX7_paid 25 = .ok (.ireturn, 1) := by decide +kernel
theorem dX7_paid_26 : decode cX7_paid 26 = .ok (.aload_n 0, 1) := by decide +kernel
theorem dX7_paid_27 : decode cX7_paid 27 = .ok (.getfield 15, 3) := by decide +kernel
theorem dX7_paid_30 : decode cX7_paid 30 = .ok (.getfield 79, 3) := by decide +kernel
theorem dX7_paid_33 : decode cX7_paid 33 = .ok (.aload_n 0, 1) := by decide +kernel
theorem dX7_paid_34 : decode cX7_paid 34 = .ok (.getfield 15, 3) := by decide +kernel
theorem dX7_paid_37 : decode cX7_paid 37 = .ok (.getfield 111, 3) := by decide +kernel
theorem dX7_paid_40 : decode cX7_paid 40 = .ok (.iload_n 1, 1) := by decide +kernel
theorem dX7_paid_41 : decode cX7_paid 41 = .ok (.iaload, 1) := by decide +kernel
theorem dX7_paid_42 : decode cX7_paid 42 = .ok (.imul, 1) := by decide +kernel
theorem dX7_paid_43 : decode cX7_paid 43 = .ok (.iload_n 2, 1) := by decide +kernel
theorem dX7_paid_44 : decode cX7_paid 44 = .ok (.imul, 1) := by decide +kernel
theorem dX7_paid_45 : decode cX7_paid 45 = .ok (.ireturn, 1) := by decide +kernel
set_option maxRecDepth 20000 in
theorem ggX7_content_X7_isHour : GoodIn wsX7_content wsX7_isHour := goodIn_r _ [5] (by decide +kernel) (by decide +kernel)
set_option maxRecDepth 20000 in
theorem gX7_content_X7_isHour : GoodIn wsX7_content (va_wsS RX7 108 yX7_isHour wsX7_isHour) := goodIn_app (goodIn_of _ (by decide +kernel)) ggX7_content_X7_isHour
set_option maxRecDepth 20000 in
theorem ggX7_content_X3_farFromBest : GoodIn wsX7_content wsX3_farFromBest := goodIn_r _ [10, 11, 12, 13, 14, 15, 16, 24, 25, 26, 27, 28, 29, 30, 31, 32] (by decide +kernel) (by decide +kernel)
set_option maxRecDepth 20000 in
theorem gX7_content_X3_farFromBest : GoodIn wsX7_content (wsV RX7 136 RX3 yX3_farFromBest wsX3_farFromBest) := goodIn_app (goodIn_of _ (by decide +kernel)) ggX7_content_X3_farFromBest
theorem dX7_content_0 : decode cX7_content 0 = .ok (.iload_n 1, 1) := by decide +kernel
theorem dX7_content_1 : decode cX7_content 1 = .ok (.invokestatic 108, 3) := by decide +kernel
theorem dX7_content_4 : decode cX7_content 4 = .ok (.ifCond .eq 14, 3) := by decide +kernel
theorem dX7_content_7 : decode cX7_content 7 = .ok (.aload_n 0, 1) := by decide +kernel
theorem dX7_content_8 : decode cX7_content 8 = .ok (.getfield 15, 3) := by decide +kernel
theorem dX7_content_11 : decode cX7_content 11 = .ok (.iload_n 1, 1) := by decide +kernel
theorem dX7_content_12 : decode cX7_content 12 = .ok (.invokevirtual 136, 3) := by decide +kernel
theorem dX7_content_15 : decode cX7_content 15 = .ok (.goto 5, 3) := by decide +kernel
theorem dX7_content_18 : decode cX7_content 18 = .ok (.bipush (-2), 2) := by decide +kernel
theorem dX7_content_20 : decode cX7_content 20 = .ok (.ireturn, 1) := by decide +kernel
set_option maxRecDepth 20000 in
theorem ggX7_choice_X3_has : GoodIn wsX7_choice wsX3_has := goodIn_r _ [7, 8, 118, 119, 120, 121, 122, 123, 124, 125, 126] (by decide +kernel) (by decide +kernel)
set_option maxRecDepth 20000 in
theorem gX7_choice_X3_has : GoodIn wsX7_choice (wsV RX7 71 RX3 yX3_has wsX3_has) := goodIn_app (goodIn_of _ (by decide +kernel)) ggX7_choice_X3_has
set_option maxRecDepth 20000 in
theorem ggX7_choice_X7_isHour : GoodIn wsX7_choice wsX7_isHour := goodIn_r _ [12] (by decide +kernel) (by decide +kernel)
set_option maxRecDepth 20000 in
theorem gX7_choice_X7_isHour : GoodIn wsX7_choice (va_wsS RX7 108 yX7_isHour wsX7_isHour) := goodIn_app (goodIn_of _ (by decide +kernel)) ggX7_choice_X7_isHour
set_option maxRecDepth 20000 in
theorem ggX7_choice_X7_within : GoodIn wsX7_choice wsX7_within := goodIn_r _ [15] (by decide +kernel) (by decide +kernel)
set_option maxRecDepth 20000 in
theorem gX7_choice_X7_within : GoodIn wsX7_choice (va_wsS RX7 59 yX7_within wsX7_within) := goodIn_app (goodIn_of _ (by decide +kernel)) ggX7_choice_X7_within
set_option maxRecDepth 20000 in
theorem ggX7_choice_X2_weigh : GoodIn wsX7_choice wsX2_weigh := goodIn_r _ [20, 21, 22, 23, 24, 25, 26, 27, 28, 29, 30, 31, 32, 33, 34, 35, 36, 37, 38, 39, 40, 41, 19, 42, 43, 44, 45, 46, 47, 48, 49, 50, 51, 52, 53, 54, 55, 56, 57, 58, 59, 60, 61, 62, 63, 64, 65, 11, 66, 67, 68, 69, 70, 71, 72, 73, 74, 75, 76, 77, 78, 79, 80, 81, 82, 83, 84, 85, 86, 87, 88, 89, 90, 91, 92, 93, 94, 95, 96, 97, 98, 99, 100, 101, 102, 127, 128, 129, 130, 131, 132, 133, 134, 135, 118, 119, 120, 121, 122, 123, 124, 125, 126, 136, 137] (by decide +kernel) (by decide +kernel)
set_option maxRecDepth 20000 in
theorem gX7_choice_X2_weigh : GoodIn wsX7_choice (wsV RX7 139 RX2 yX2_weigh wsX2_weigh) := goodIn_app (goodIn_of _ (by decide +kernel)) ggX7_choice_X2_weigh
set_option maxRecDepth 20000 in
theorem ggX7_choice_X2_leastCost : GoodIn wsX7_choice wsX2_leastCost := goodIn_r _ [106, 22, 127, 128, 129, 130] (by decide +kernel) (by decide +kernel)
set_option maxRecDepth 20000 in
theorem gX7_choice_X2_leastCost : GoodIn wsX7_choice (wsV RX7 143 RX2 yX2_leastCost wsX2_leastCost) := goodIn_app (goodIn_of _ (by decide +kernel)) ggX7_choice_X2_leastCost
set_option maxRecDepth 20000 in
theorem ggX7_choice_X2_lateInWeek : GoodIn wsX7_choice wsX2_lateInWeek := goodIn_r _ [110, 44, 45, 46, 47, 19, 48, 21, 49, 50, 51, 52, 53, 54, 26, 55, 28, 56, 57, 58, 59, 60, 61, 62, 63, 64, 65, 11, 66, 67, 68, 69, 70, 71, 72, 73, 74, 75, 76, 77, 78, 79, 80, 81, 82, 83, 84, 85, 86, 87, 88, 89, 90, 91, 92, 93, 127, 128, 129, 130, 131, 132, 133, 134, 135, 118, 119, 120, 121, 122, 123, 124, 125, 126, 136, 137] (by decide +kernel) (by decide +kernel)
set_option maxRecDepth 20000 in
theorem gX7_choice_X2_lateInWeek : GoodIn wsX7_choice (wsV RX7 146 RX2 yX2_lateInWeek wsX2_lateInWeek) := goodIn_app (goodIn_of _ (by decide +kernel)) ggX7_choice_X2_lateInWeek
theorem dX7_choice_0 : decode cX7_choice 0 = .ok (.aload_n 0, 1) := by decide +kernel
theorem dX7_choice_1 : decode cX7_choice 1 = .ok (.getfield 15, 3) := by decide +kernel
theorem dX7_choice_4 : decode cX7_choice 4 = .ok (.iload_n 1, 1) := by decide +kernel
theorem dX7_choice_5 : decode cX7_choice 5 = .ok (.invokevirtual 71, 3) := by decide +kernel
theorem dX7_choice_8 : decode cX7_choice 8 = .ok (.ifCond .ne 5, 3) := by decide +kernel
theorem dX7_choice_11 : decode cX7_choice 11 = .ok (.iconst (-1), 1) := by decide +kernel
theorem dX7_choice_12 : decode cX7_choice 12 = .ok (.ireturn, 1) := by decide +kernel
theorem dX7_choice_13 : decode cX7_choice 13 = .ok (.iload_n 2, 1) := by decide +kernel
theorem dX7_choice_14 : decode cX7_choice 14 = .ok (.invokestatic 108, 3) := by decide +kernel
theorem dX7_choice_17 : decode cX7_choice 17 = .ok (.ifCond .eq 24, 3) := by decide +kernel
theorem dX7_choice_20 : decode cX7_choice 20 = .ok (.iload_n 3, 1) := by decide +kernel
theorem dX7_choice_21 : decode cX7_choice 21 = .ok (.iconst 1, 1) := by decide +kernel
theorem dX7_choice_22 : decode cX7_choice 22 = .ok (.iconst 4, 1) := by decide +kernel
theorem dX7_choice_23 : decode cX7_choice 23 = .ok (.invokestatic 59, 3) := by decide +kernel
theorem dX7_choice_26 : decode cX7_choice 26 = .ok (.ifCond .eq 15, 3) := by decide +kernel
theorem dX7_choice_29 : decode cX7_choice 29 = .ok (.iload 4, 2) := by decide +kernel
theorem dX7_choice_31 : decode cX7_choice 31 = .ok (.iconst (-1), 1) := by decide +kernel
theorem dX7_choice_32 : decode cX7_choice 32 = .ok (.iload_n 3, 1) := by decide +kernel
theorem dX7_choice_33 : decode cX7_choice 33 = .ok (.iconst 1, 1) := by decide +kernel
theorem dX7_choice_34 : decode cX7_choice 34 = .ok (.isub, 1) := by decide +kernel
theorem dX7_choice_35 : decode cX7_choice 35 = .ok (.invokestatic 59, 3) := by decide +kernel
theorem dX7_choice_38 : decode cX7_choice 38 = .ok (.ifCond .ne 6, 3) := by decide +kernel
theorem dX7_choice_41 : decode cX7_choice 41 = .ok (.bipush (-2), 2) := by decide +kernel
theorem dX7_choice_43 : decode cX7_choice 43 = .ok (.ireturn, 1) := by decide +kernel
theorem dX7_choice_44 : decode cX7_choice 44 = .ok (.aload_n 0, 1) := by decide +kernel
theorem dX7_choice_45 : decode cX7_choice 45 = .ok (.getfield 44, 3) := by decide +kernel
theorem dX7_choice_48 : decode cX7_choice 48 = .ok (.iload_n 1, 1) := by decide +kernel
theorem dX7_choice_49 : decode cX7_choice 49 = .ok (.iload_n 3, 1) := by decide +kernel
theorem dX7_choice_50 : decode cX7_choice 50 = .ok (.invokevirtual 139, 3) := by decide +kernel
theorem dX7_choice_53 : decode cX7_choice 53 = .ok (.iload 4, 2) := by decide +kernel
theorem dX7_choice_55 : decode cX7_choice 55 = .ok (.ifCond .ge 14, 3) := by decide +kernel
theorem dX7_choice_58 : decode cX7_choice 58 = .ok (.aload_n 0, 1) := by decide +kernel
theorem dX7_choice_59 : decode cX7_choice 59 = .ok (.getfield 44, 3) := by decide +kernel
theorem dX7_choice_62 : decode cX7_choice 62 = .ok (.iload_n 2, 1) := by decide +kernel
theorem dX7_choice_63 : decode cX7_choice 63 = .ok (.invokevirtual 143, 3) := by decide +kernel
theorem dX7_choice_66 : decode cX7_choice 66 = .ok (.goto 14, 3) := by decide +kernel
theorem dX7_choice_69 : decode cX7_choice 69 = .ok (.aload_n 0, 1) := by decide +kernel
theorem dX7_choice_70 : decode cX7_choice 70 = .ok (.getfield 44, 3) := by decide +kernel
theorem dX7_choice_73 : decode cX7_choice 73 = .ok (.iload_n 1, 1) := by decide +kernel
theorem dX7_choice_74 : decode cX7_choice 74 = .ok (.iload_n 2, 1) := by decide +kernel
theorem dX7_choice_75 : decode cX7_choice 75 = .ok (.iload 4, 2) := by decide +kernel
theorem dX7_choice_77 : decode cX7_choice 77 = .ok (.invokevirtual 146, 3) := by decide +kernel
theorem dX7_choice_80 : decode cX7_choice 80 = .ok (.ireturn, 1) := by decide +kernel
set_option maxRecDepth 20000 in
theorem ggX7_rests_X7_isHour : GoodIn wsX7_rests wsX7_isHour := goodIn_r _ [5] (by decide +kernel) (by decide +kernel)
set_option maxRecDepth 20000 in
theorem gX7_rests_X7_isHour : GoodIn wsX7_rests (va_wsS RX7 108 yX7_isHour wsX7_isHour) := goodIn_app (goodIn_of _ (by decide +kernel)) ggX7_rests_X7_isHour
set_option maxRecDepth 20000 in
theorem ggX7_rests_X2_tabulate : GoodIn wsX7_rests wsX2_tabulate := goodIn_r _ [10, 11, 12, 13, 14, 15, 16, 17, 18, 19, 9, 20, 21, 22, 23, 24, 25, 26, 27, 28, 29, 30, 31, 32, 33, 34, 35, 36, 37, 38, 39, 40, 41, 42, 43, 44, 45, 4, 46, 47, 48, 49, 50, 51, 52, 53, 54, 55, 56, 57, 58, 59, 60, 61, 62, 63, 64, 65, 66, 67, 68, 69, 70, 71, 72, 73, 106, 107, 108, 109, 110, 111, 112, 113, 114, 115, 116, 117, 118, 119, 120, 121, 122, 123, 124, 125] (by decide +kernel) (by decide +kernel)
set_option maxRecDepth 20000 in
theorem gX7_rests_X2_tabulate : GoodIn wsX7_rests (wsV RX7 149 RX2 yX2_tabulate wsX2_tabulate) := goodIn_app (goodIn_of _ (by decide +kernel)) ggX7_rests_X2_tabulate
set_option maxRecDepth 20000 in
theorem ggX7_rests_X2_restCount : GoodIn wsX7_rests wsX2_restCount := goodIn_r _ [77, 17, 18, 19, 9, 20, 11, 12, 13, 21, 22, 23, 24, 78, 79, 80, 81, 15, 25, 26, 27, 28, 29, 30, 31, 32, 82, 83, 84, 85, 86, 87, 88, 89, 90, 106, 107, 108, 109, 110, 111, 112, 113, 114, 115, 116, 117, 118, 119, 120, 121, 122, 123] (by decide +kernel) (by decide +kernel)
set_option maxRecDepth 20000 in
theorem gX7_rests_X2_restCount : GoodIn wsX7_rests (wsV RX7 152 RX2 yX2_restCount wsX2_restCount) := goodIn_app (goodIn_of _ (by decide +kernel)) ggX7_rests_X2_restCount
set_option maxRecDepth 20000 in
theorem ggX7_rests_X2_restAt : GoodIn wsX7_rests wsX2_restAt := goodIn_r _ [94, 17, 18, 19, 9, 20, 11, 12, 13, 21, 22, 23, 24, 78, 79, 80, 81, 15, 25, 26, 27, 28, 29, 30, 31, 32, 82, 83, 84, 85, 86, 87, 88, 89, 90, 95, 96, 97, 98, 106, 107, 108, 109, 110, 111, 112, 113, 114, 115, 116, 117, 118, 119, 120, 121, 122, 123] (by decide +kernel) (by decide +kernel)
set_option maxRecDepth 20000 in
theorem gX7_rests_X2_restAt : GoodIn wsX7_rests (wsV RX7 155 RX2 yX2_restAt wsX2_restAt) := goodIn_app (goodIn_of _ (by decide +kernel)) ggX7_rests_X2_restAt
theorem dX7_rests_0 : decode cX7_rests 0 = .ok (.iload_n 1, 1) := by decide +kernel
theorem dX7_rests_1 : decode cX7_rests 1 = .ok (.invokestatic 108, 3) := by decide +kernel
theorem dX7_rests_4 : decode cX7_rests 4 = .ok (.ifCond .ne 6, 3) := by decide +kernel
theorem dX7_rests_7 : decode cX7_rests 7 = .ok (.bipush (-2), 2) := by decide +kernel
theorem dX7_rests_9 : decode cX7_rests 9 = .ok (.ireturn, 1) := by decide +kernel
theorem dX7_rests_10 : decode cX7_rests 10 = .ok (.iload_n 2, 1) := by decide +kernel
theorem dX7_rests_11 : decode cX7_rests 11 = .ok (.iconst (-1), 1) := by decide +kernel
theorem dX7_rests_12 : decode cX7_rests 12 = .ok (.if_icmp .ge 6, 3) := by decide +kernel
theorem dX7_rests_15 : decode cX7_rests 15 = .ok (.bipush (-6), 2) := by decide +kernel
theorem dX7_rests_17 : decode cX7_rests 17 = .ok (.ireturn, 1) := by decide +kernel
theorem dX7_rests_18 : decode cX7_rests 18 = .ok (.aload_n 0, 1) := by decide +kernel
theorem dX7_rests_19 : decode cX7_rests 19 = .ok (.getfield 44, 3) := by decide +kernel
theorem dX7_rests_22 : decode cX7_rests 22 = .ok (.iload_n 1, 1) := by decide +kernel
theorem dX7_rests_23 : decode cX7_rests 23 = .ok (.invokevirtual 149, 3) := by decide +kernel
theorem dX7_rests_26 : decode cX7_rests 26 = .ok (.iload_n 2, 1) := by decide +kernel
theorem dX7_rests_27 : decode cX7_rests 27 = .ok (.ifCond .ge 13, 3) := by decide +kernel
theorem dX7_rests_30 : decode cX7_rests 30 = .ok (.aload_n 0, 1) := by decide +kernel
theorem dX7_rests_31 : decode cX7_rests 31 = .ok (.getfield 44, 3) := by decide +kernel
theorem dX7_rests_34 : decode cX7_rests 34 = .ok (.invokevirtual 152, 3) := by decide +kernel
theorem dX7_rests_37 : decode cX7_rests 37 = .ok (.goto 11, 3) := by decide +kernel
theorem dX7_rests_40 : decode cX7_rests 40 = .ok (.aload_n 0, 1) := by decide +kernel
theorem dX7_rests_41 : decode cX7_rests 41 = .ok (.getfield 44, 3) := by decide +kernel
theorem dX7_rests_44 : decode cX7_rests 44 = .ok (.iload_n 2, 1) := by decide +kernel
theorem dX7_rests_45 : decode cX7_rests 45 = .ok (.invokevirtual 155, 3) := by decide +kernel
theorem dX7_rests_48 : decode cX7_rests 48 = .ok (.ireturn, 1) := by decide +kernel
set_option maxRecDepth 20000 in
theorem ggX7_laws_X7_isHour : GoodIn wsX7_laws wsX7_isHour := goodIn_r _ [5] (by decide +kernel) (by decide +kernel)
set_option maxRecDepth 20000 in
theorem gX7_laws_X7_isHour : GoodIn wsX7_laws (va_wsS RX7 108 yX7_isHour wsX7_isHour) := goodIn_app (goodIn_of _ (by decide +kernel)) ggX7_laws_X7_isHour
set_option maxRecDepth 20000 in
theorem ggX7_laws_X7_within : GoodIn wsX7_laws wsX7_within := goodIn_r _ [8] (by decide +kernel) (by decide +kernel)
set_option maxRecDepth 20000 in
theorem gX7_laws_X7_within : GoodIn wsX7_laws (va_wsS RX7 59 yX7_within wsX7_within) := goodIn_app (goodIn_of _ (by decide +kernel)) ggX7_laws_X7_within
set_option maxRecDepth 20000 in
theorem ggX7_laws_X6_bestToldLaw : GoodIn wsX7_laws wsX6_bestToldLaw := goodIn_r _ [13, 14, 15, 16, 17, 18, 19, 12, 20, 21, 22, 23, 24, 25, 26, 27, 28, 29, 30, 31, 32, 33, 34, 35, 36, 37, 38, 39, 40, 41, 42, 43, 44, 45, 46, 47, 48, 49, 50, 51, 52, 53, 54, 55, 56, 57, 58, 59, 60, 4, 61, 62, 63, 64, 65, 66, 67, 68, 69, 70, 71, 72, 73, 74, 75, 76, 77, 78, 79, 80, 81, 82, 83, 84, 85, 86, 87, 88, 89, 90, 91, 92, 93, 94, 95, 96, 97, 98, 107, 108, 109, 110, 111, 112, 113, 114, 115, 116, 117, 118, 119, 120, 121, 122, 123, 124, 125, 126, 127, 128] (by decide +kernel) (by decide +kernel)
set_option maxRecDepth 20000 in
theorem gX7_laws_X6_bestToldLaw : GoodIn wsX7_laws (wsV RX7 158 RX6 yX6_bestToldLaw wsX6_bestToldLaw) := goodIn_app (goodIn_of _ (by decide +kernel)) ggX7_laws_X6_bestToldLaw
set_option maxRecDepth 20000 in
theorem ggX7_laws_X6_restUnder : GoodIn wsX7_laws wsX6_restUnder := goodIn_r _ [20, 21, 22, 23, 24, 25, 26, 27, 28, 29, 30, 31, 32, 33, 34, 35, 36, 12, 37, 38, 15, 16, 39, 40, 41, 42, 43, 44, 45, 46, 47, 48, 49, 50, 51, 52, 53, 54, 55, 56, 57, 58, 59, 60, 4, 61, 62, 63, 64, 65, 66, 67, 68, 69, 70, 71, 72, 73, 74, 75, 76, 77, 78, 79, 80, 81, 82, 83, 84, 85, 86, 87, 88, 107, 108, 109, 110, 111, 112, 118, 119, 113, 114, 115, 116, 117, 120, 121, 122, 123, 124, 125, 126, 127, 128] (by decide +kernel) (by decide +kernel)
set_option maxRecDepth 20000 in
theorem gX7_laws_X6_restUnder : GoodIn wsX7_laws (wsV RX7 161 RX6 yX6_restUnder wsX6_restUnder) := goodIn_app (goodIn_of _ (by decide +kernel)) ggX7_laws_X6_restUnder
theorem dX7_laws_0 : decode cX7_laws 0 = .ok (.iload_n 1, 1) := by decide +kernel
theorem dX7_laws_1 : decode cX7_laws 1 = .ok (.invokestatic 108, 3) := by decide +kernel
theorem dX7_laws_4 : decode cX7_laws 4 = .ok (.ifCond .eq 12, 3) := by decide +kernel
theorem dX7_laws_7 : decode cX7_laws 7 = .ok (.iload_n 2, 1) := by decide +kernel
theorem dX7_laws_8 : decode cX7_laws 8 = .ok (.iconst 0, 1) := by decide +kernel
theorem dX7_laws_9 : decode cX7_laws 9 = .ok (.iconst 1, 1) := by decide +kernel
theorem dX7_laws_10 : decode cX7_laws 10 = .ok (.invokestatic 59, 3) := by decide +kernel
theorem dX7_laws_13 : decode cX7_laws 13 = .ok (.ifCond .ne 6, 3) := by decide +kernel
theorem dX7_laws_16 : decode cX7_laws 16 = .ok (.bipush (-2), 2) := by decide +kernel
theorem dX7_laws_18 : decode cX7_laws 18 = .ok (.ireturn, 1) := by decide +kernel
theorem dX7_laws_19 : decode cX7_laws 19 = .ok (.aload_n 0, 1) := by decide +kernel
theorem dX7_laws_20 : decode cX7_laws 20 = .ok (.getfield 37, 3) := by decide +kernel
theorem dX7_laws_23 : decode cX7_laws 23 = .ok (.iload_n 1, 1) := by decide +kernel
theorem dX7_laws_24 : decode cX7_laws 24 = .ok (.invokevirtual 158, 3) := by decide +kernel
theorem dX7_laws_27 : decode cX7_laws 27 = .ok (.istore_n 3, 1) := by decide +kernel
theorem dX7_laws_28 : decode cX7_laws 28 = .ok (.iload_n 3, 1) := by decide +kernel
theorem dX7_laws_29 : decode cX7_laws 29 = .ok (.bipush (-6), 2) := by decide +kernel
theorem dX7_laws_31 : decode cX7_laws 31 = .ok (.if_icmp .eq 7, 3) := by decide +kernel
theorem dX7_laws_34 : decode cX7_laws 34 = .ok (.iload_n 2, 1) := by decide +kernel
theorem dX7_laws_35 : decode cX7_laws 35 = .ok (.ifCond .ne 5, 3) := by decide +kernel
theorem dX7_laws_38 : decode cX7_laws 38 = .ok (.iload_n 3, 1) := by decide +kernel
theorem dX7_laws_39 : decode cX7_laws 39 = .ok (.ireturn, 1) := by decide +kernel
theorem dX7_laws_40 : decode cX7_laws 40 = .ok (.aload_n 0, 1) := by decide +kernel
theorem dX7_laws_41 : decode cX7_laws 41 = .ok (.getfield 37, 3) := by decide +kernel
theorem dX7_laws_44 : decode cX7_laws 44 = .ok (.iload_n 3, 1) := by decide +kernel
theorem dX7_laws_45 : decode cX7_laws 45 = .ok (.iload_n 1, 1) := by decide +kernel
theorem dX7_laws_46 : decode cX7_laws 46 = .ok (.invokevirtual 161, 3) := by decide +kernel
theorem dX7_laws_49 : decode cX7_laws 49 = .ok (.ireturn, 1) := by decide +kernel
set_option maxRecDepth 20000 in
theorem ggX7_move_X7_isHour : GoodIn wsX7_move wsX7_isHour := goodIn_r _ [5] (by decide +kernel) (by decide +kernel)
set_option maxRecDepth 20000 in
theorem gX7_move_X7_isHour : GoodIn wsX7_move (va_wsS RX7 108 yX7_isHour wsX7_isHour) := goodIn_app (goodIn_of _ (by decide +kernel)) ggX7_move_X7_isHour
set_option maxRecDepth 20000 in
theorem ggX7_move_X7_within : GoodIn wsX7_move wsX7_within := goodIn_r _ [8] (by decide +kernel) (by decide +kernel)
set_option maxRecDepth 20000 in
theorem gX7_move_X7_within : GoodIn wsX7_move (va_wsS RX7 59 yX7_within wsX7_within) := goodIn_app (goodIn_of _ (by decide +kernel)) ggX7_move_X7_within
set_option maxRecDepth 20000 in
theorem ggX7_move_X2_leastMovers : GoodIn wsX7_move wsX2_leastMovers := goodIn_r _ [13, 14, 15, 16, 17, 18, 19, 20, 21, 22, 23, 24, 25, 26, 12, 27, 28, 29, 30, 31, 32, 33, 34, 35, 36, 37, 38, 39, 40, 41, 42, 43, 44, 45, 46, 47, 48, 49, 50, 51, 52, 53, 54, 55, 56, 57, 58, 59, 60, 61, 62, 63, 64, 4, 65, 66, 67, 68, 69, 70, 71, 72, 73, 74, 75, 76, 77, 78, 79, 80, 81, 82, 83, 84, 85, 86, 87, 88, 89, 90, 91, 92, 100, 101, 102, 103, 104, 105, 106, 107, 108, 109, 110, 111, 112, 113, 114, 115, 116, 117, 118, 119] (by decide +kernel) (by decide +kernel)
set_option maxRecDepth 20000 in
theorem gX7_move_X2_leastMovers : GoodIn wsX7_move (wsV RX7 165 RX2 yX2_leastMovers wsX2_leastMovers) := goodIn_app (goodIn_of _ (by decide +kernel)) ggX7_move_X2_leastMovers
theorem dX7_move_0 : decode cX7_move 0 = .ok (.iload_n 1, 1) := by decide +kernel
theorem dX7_move_1 : decode cX7_move 1 = .ok (.invokestatic 108, 3) := by decide +kernel
theorem dX7_move_4 : decode cX7_move 4 = .ok (.ifCond .eq 20, 3) := by decide +kernel
theorem dX7_move_7 : decode cX7_move 7 = .ok (.iload_n 3, 1) := by decide +kernel
theorem dX7_move_8 : decode cX7_move 8 = .ok (.invokestatic 108, 3) := by decide +kernel
theorem dX7_move_11 : decode cX7_move 11 = .ok (.ifCond .eq 13, 3) := by decide +kernel
theorem dX7_move_14 : decode cX7_move 14 = .ok (.iload_n 2, 1) := by decide +kernel
theorem dX7_move_15 : decode cX7_move 15 = .ok (.iconst 1, 1) := by decide +kernel
theorem dX7_move_16 : decode cX7_move 16 = .ok (.bipush 9, 2) := by decide +kernel
theorem dX7_move_18 : decode cX7_move 18 = .ok (.invokestatic 59, 3) := by decide +kernel
theorem dX7_move_21 : decode cX7_move 21 = .ok (.ifCond .ne 6, 3) := by decide +kernel
theorem dX7_move_24 : decode cX7_move 24 = .ok (.bipush (-2), 2) := by decide +kernel
theorem dX7_move_26 : decode cX7_move 26 = .ok (.ireturn, 1) := by decide +kernel
theorem dX7_move_27 : decode cX7_move 27 = .ok (.aload_n 0, 1) := by decide +kernel
theorem dX7_move_28 : decode cX7_move 28 = .ok (.getfield 44, 3) := by decide +kernel
theorem dX7_move_31 : decode cX7_move 31 = .ok (.iload_n 1, 1) := by decide +kernel
theorem dX7_move_32 : decode cX7_move 32 = .ok (.iload_n 2, 1) := by decide +kernel
theorem dX7_move_33 : decode cX7_move 33 = .ok (.iload_n 3, 1) := by decide +kernel
theorem dX7_move_34 : decode cX7_move 34 = .ok (.invokevirtual 165, 3) := by decide +kernel
theorem dX7_move_37 : decode cX7_move 37 = .ok (.ireturn, 1) := by decide +kernel
set_option maxRecDepth 20000 in
theorem ggX7_seen_X7_within : GoodIn wsX7_seen wsX7_within := goodIn_r _ [6] (by decide +kernel) (by decide +kernel)
set_option maxRecDepth 20000 in
theorem gX7_seen_X7_within : GoodIn wsX7_seen (va_wsS RX7 59 yX7_within wsX7_within) := goodIn_app (goodIn_of _ (by decide +kernel)) ggX7_seen_X7_within
set_option maxRecDepth 20000 in
theorem ggX7_seen_X7_isHour : GoodIn wsX7_seen wsX7_isHour := goodIn_r _ [9] (by decide +kernel) (by decide +kernel)
set_option maxRecDepth 20000 in
theorem gX7_seen_X7_isHour : GoodIn wsX7_seen (va_wsS RX7 108 yX7_isHour wsX7_isHour) := goodIn_app (goodIn_of _ (by decide +kernel)) ggX7_seen_X7_isHour
set_option maxRecDepth 20000 in
theorem ggX7_seen_X3_addSight : GoodIn wsX7_seen wsX3_addSight := goodIn_r _ [14, 15, 16, 17, 25, 26, 27, 28, 29, 30, 31, 32, 33] (by decide +kernel) (by decide +kernel)
set_option maxRecDepth 20000 in
theorem gX7_seen_X3_addSight : GoodIn wsX7_seen (wsV RX7 171 RX3 yX3_addSight wsX3_addSight) := goodIn_app (goodIn_of _ (by decide +kernel)) ggX7_seen_X3_addSight
theorem dX7_seen_0 : decode cX7_seen 0 = .ok (.iload_n 1, 1) := by decide +kernel
theorem dX7_seen_1 : decode cX7_seen 1 = .ok (.iconst 0, 1) := by decide +kernel
theorem dX7_seen_2 : decode cX7_seen 2 = .ok (.bipush 30, 2) := by decide +kernel
theorem dX7_seen_4 : decode cX7_seen 4 = .ok (.invokestatic 59, 3) := by decide +kernel
theorem dX7_seen_7 : decode cX7_seen 7 = .ok (.ifCond .eq 10, 3) := by decide +kernel
theorem dX7_seen_10 : decode cX7_seen 10 = .ok (.iload_n 2, 1) := by decide +kernel
theorem dX7_seen_11 : decode cX7_seen 11 = .ok (.invokestatic 108, 3) := by decide +kernel
theorem dX7_seen_14 : decode cX7_seen 14 = .ok (.ifCond .ne 6, 3) := by decide +kernel
theorem dX7_seen_17 : decode cX7_seen 17 = .ok (.bipush (-2), 2) := by decide +kernel
theorem dX7_seen_19 : decode cX7_seen 19 = .ok (.ireturn, 1) := by decide +kernel
theorem dX7_seen_20 : decode cX7_seen 20 = .ok (.aload_n 0, 1) := by decide +kernel
theorem dX7_seen_21 : decode cX7_seen 21 = .ok (.getfield 15, 3) := by decide +kernel
theorem dX7_seen_24 : decode cX7_seen 24 = .ok (.getfield 168, 3) := by decide +kernel
theorem dX7_seen_27 : decode cX7_seen 27 = .ok (.bipush 6, 2) := by decide +kernel
theorem dX7_seen_29 : decode cX7_seen 29 = .ok (.if_icmp .lt 6, 3) := by decide +kernel
theorem dX7_seen_32 : decode cX7_seen 32 = .ok (.bipush (-4), 2) := by decide +kernel
theorem dX7_seen_34 : decode cX7_seen 34 = .ok (.ireturn, 1) := by decide +kernel
theorem dX7_seen_35 : decode cX7_seen 35 = .ok (.aload_n 0, 1) := by decide +kernel
theorem dX7_seen_36 : decode cX7_seen 36 = .ok (.getfield 15, 3) := by decide +kernel
theorem dX7_seen_39 : decode cX7_seen 39 = .ok (.iload_n 1, 1) := by decide +kernel
theorem dX7_seen_40 : decode cX7_seen 40 = .ok (.iload_n 2, 1) := by decide +kernel
theorem dX7_seen_41 : decode cX7_seen 41 = .ok (.invokevirtual 171, 3) := by decide +kernel
theorem dX7_seen_44 : decode cX7_seen 44 = .ok (.ireturn, 1) := by decide +kernel
theorem dX7_forget_0 : decode cX7_forget 0 = .ok (.aload_n 0, 1) := by decide +kernel
theorem dX7_forget_1 : decode cX7_forget 1 = .ok (.getfield 15, 3) := by decide +kernel
theorem dX7_forget_4 : decode cX7_forget 4 = .ok (.getfield 168, 3) := by decide +kernel
theorem dX7_forget_7 : decode cX7_forget 7 = .ok (.istore_n 1, 1) := by decide +kernel
theorem dX7_forget_8 : decode cX7_forget 8 = .ok (.aload_n 0, 1) := by decide +kernel
theorem dX7_forget_9 : decode cX7_forget 9 = .ok (.getfield 15, 3) := by decide +kernel
theorem dX7_forget_12 : decode cX7_forget 12 = .ok (.iconst 0, 1) := by decide +kernel
theorem dX7_forget_13 : decode cX7_forget 13 = .ok (.putfield 168, 3) := by decide +kernel
theorem dX7_forget_16 : decode cX7_forget 16 = .ok (.iload_n 1, 1) := by decide +kernel
theorem dX7_forget_17 : decode cX7_forget 17 = .ok (.ireturn, 1) := by decide +kernel
set_option maxRecDepth 20000 in
theorem ggX7_could_X3_has : GoodIn wsX7_could wsX3_has := goodIn_r _ [7, 8, 90, 91, 92, 93, 94, 95, 96, 97, 98] (by decide +kernel) (by decide +kernel)
set_option maxRecDepth 20000 in
theorem gX7_could_X3_has : GoodIn wsX7_could (wsV RX7 71 RX3 yX3_has wsX3_has) := goodIn_app (goodIn_of _ (by decide +kernel)) ggX7_could_X3_has
set_option maxRecDepth 20000 in
theorem ggX7_could_X7_isHour : GoodIn wsX7_could wsX7_isHour := goodIn_r _ [12] (by decide +kernel) (by decide +kernel)
set_option maxRecDepth 20000 in
theorem gX7_could_X7_isHour : GoodIn wsX7_could (va_wsS RX7 108 yX7_isHour wsX7_isHour) := goodIn_app (goodIn_of _ (by decide +kernel)) ggX7_could_X7_isHour
set_option maxRecDepth 20000 in
theorem ggX7_could_X0_latesThatFit : GoodIn wsX7_could wsX0_latesThatFit := goodIn_r _ [17, 18, 19, 20, 21, 16, 22, 23, 24, 25, 26, 27, 28, 29, 30, 31, 32, 33, 34, 35, 36, 37, 38, 39, 40, 41, 42, 43, 44, 45, 46, 47, 48, 49, 50, 51, 52, 53, 54, 11, 55, 56, 57, 58, 59, 60, 61, 62, 63, 64, 65, 66, 67, 68, 69, 70, 71, 72, 73, 74, 75, 76, 77, 78, 79, 80, 81, 82, 99, 100, 101, 102, 103, 90, 91, 92, 93, 94, 95, 96, 97, 98, 104, 105] (by decide +kernel) (by decide +kernel)
set_option maxRecDepth 20000 in
theorem gX7_could_X0_latesThatFit : GoodIn wsX7_could (wsV RX7 174 RX0 yX0_latesThatFit wsX0_latesThatFit) := goodIn_app (goodIn_of _ (by decide +kernel)) ggX7_could_X0_latesThatFit
theorem dX7_could_0 : decode cX7_could 0 = .ok (.aload_n 0, 1) := by decide +kernel
theorem dX7_could_1 : decode cX7_could 1 = .ok (.getfield 15, 3) := by decide +kernel
theorem dX7_could_4 : decode cX7_could 4 = .ok (.iload_n 1, 1) := by decide +kernel
theorem dX7_could_5 : decode cX7_could 5 = .ok (.invokevirtual 71, 3) := by decide +kernel
theorem dX7_could_8 : decode cX7_could 8 = .ok (.ifCond .ne 5, 3) := by decide +kernel
theorem dX7_could_11 : decode cX7_could 11 = .ok (.iconst (-1), 1) := by decide +kernel
theorem dX7_could_12 : decode cX7_could 12 = .ok (.ireturn, 1) := by decide +kernel
theorem dX7_could_13 : decode cX7_could 13 = .ok (.iload_n 2, 1) := by decide +kernel
theorem dX7_could_14 : decode cX7_could 14 = .ok (.invokestatic 108, 3) := by decide +kernel
theorem dX7_could_17 : decode cX7_could 17 = .ok (.ifCond .eq 15, 3) := by decide +kernel
theorem dX7_could_20 : decode cX7_could 20 = .ok (.aload_n 0, 1) := by decide +kernel
theorem dX7_could_21 : decode cX7_could 21 = .ok (.getfield 21, 3) := by decide +kernel
theorem dX7_could_24 : decode cX7_could 24 = .ok (.iload_n 1, 1) := by decide +kernel
theorem dX7_could_25 : decode cX7_could 25 = .ok (.iload_n 2, 1) := by decide +kernel
theorem dX7_could_26 : decode cX7_could 26 = .ok (.invokevirtual 174, 3) := by decide +kernel
theorem dX7_could_29 : decode cX7_could 29 = .ok (.goto 5, 3) := by decide +kernel
theorem dX7_could_32 : decode cX7_could 32 = .ok (.bipush (-2), 2) := by decide +kernel
theorem dX7_could_34 : decode cX7_could 34 = .ok (.ireturn, 1) := by decide +kernel
set_option maxRecDepth 20000 in
theorem ggX7_rain_X7_isHour : GoodIn wsX7_rain wsX7_isHour := goodIn_r _ [8] (by decide +kernel) (by decide +kernel)
set_option maxRecDepth 20000 in
theorem gX7_rain_X7_isHour : GoodIn wsX7_rain (va_wsS RX7 108 yX7_isHour wsX7_isHour) := goodIn_app (goodIn_of _ (by decide +kernel)) ggX7_rain_X7_isHour
set_option maxRecDepth 20000 in
theorem ggX7_rain_X7_within : GoodIn wsX7_rain wsX7_within := goodIn_r _ [11] (by decide +kernel) (by decide +kernel)
set_option maxRecDepth 20000 in
theorem gX7_rain_X7_within : GoodIn wsX7_rain (va_wsS RX7 59 yX7_within wsX7_within) := goodIn_app (goodIn_of _ (by decide +kernel)) ggX7_rain_X7_within
set_option maxRecDepth 20000 in
theorem ggX7_rain_X1_rainOn : GoodIn wsX7_rain wsX1_rainOn := goodIn_r _ [16, 17, 18, 19, 20, 21, 22, 23, 24, 25, 26, 27, 28, 29, 15, 30, 31, 32, 33, 34, 35, 36, 37, 38, 39, 40, 41, 42, 43, 44, 45, 46, 47, 48, 49, 50, 51, 52, 53, 54, 55, 7, 56, 57, 58, 59, 60, 61, 62, 63, 64, 65, 66, 67, 68, 69, 70, 71, 72, 73, 74, 75, 76, 77, 78, 79, 80, 81, 82, 83, 84, 85, 86, 87, 95, 96, 97, 98, 99, 100, 101, 102, 103, 104, 105, 106, 107, 108, 109, 110, 111, 112, 113, 114, 115, 116, 117, 118] (by decide +kernel) (by decide +kernel)
set_option maxRecDepth 20000 in
theorem gX7_rain_X1_rainOn : GoodIn wsX7_rain (wsV RX7 179 RX1 yX1_rainOn wsX1_rainOn) := goodIn_app (goodIn_of _ (by decide +kernel)) ggX7_rain_X1_rainOn
theorem dX7_rain_0 : decode cX7_rain 0 = .ok (.iload_n 1, 1) := by decide +kernel
theorem dX7_rain_1 : decode cX7_rain 1 = .ok (.invokestatic 108, 3) := by decide +kernel
theorem dX7_rain_4 : decode cX7_rain 4 = .ok (.ifCond .eq 44, 3) := by decide +kernel
theorem dX7_rain_7 : decode cX7_rain 7 = .ok (.iload_n 2, 1) := by decide +kernel
theorem dX7_rain_8 : decode cX7_rain 8 = .ok (.iconst 0, 1) := by decide +kernel
theorem dX7_rain_9 : decode cX7_rain 9 = .ok (.bipush 8, 2) := by decide +kernel
theorem dX7_rain_11 : decode cX7_rain 11 = .ok (.invokestatic 59, 3) := by decide +kernel
theorem dX7_rain_14 : decode cX7_rain 14 = .ok (.ifCond .eq 34, 3) := by decide +kernel
theorem dX7_rain_17 : decode cX7_rain 17 = .ok (.iload_n 3, 1) := by decide +kernel
theorem dX7_rain_18 : decode cX7_rain 18 = .ok (.iconst 0, 1) := by decide +kernel
theorem dX7_rain_19 : decode cX7_rain 19 = .ok (.bipush 10, 2) := by decide +kernel
theorem dX7_rain_21 : decode cX7_rain 21 = .ok (.invokestatic 59, 3) := by decide +kernel
theorem dX7_rain_24 : decode cX7_rain 24 = .ok (.ifCond .eq 24, 3) := by decide +kernel
theorem dX7_rain_27 : decode cX7_rain 27 = .ok (.iload 4, 2) := by decide +kernel
theorem dX7_rain_29 : decode cX7_rain 29 = .ok (.iconst 0, 1) := by decide +kernel
theorem dX7_rain_30 : decode cX7_rain 30 = .ok (.bipush 9, 2) := by decide +kernel
theorem dX7_rain_32 : decode cX7_rain 32 = .ok (.invokestatic 59, 3) := by decide +kernel
theorem dX7_rain_35 : decode cX7_rain 35 = .ok (.ifCond .eq 13, 3) := by decide +kernel
theorem dX7_rain_38 : decode cX7_rain 38 = .ok (.iload 5, 2) := by decide +kernel
theorem dX7_rain_40 : decode cX7_rain 40 = .ok (.iconst 0, 1) := by decide +kernel
theorem dX7_rain_41 : decode cX7_rain 41 = .ok (.iconst 1, 1) := by decide +kernel
theorem dX7_rain_42 : decode cX7_rain 42 = .ok (.invokestatic 59, 3) := by decide +kernel
theorem dX7_rain_45 : decode cX7_rain 45 = .ok (.ifCond .ne 7, 3) := by decide +kernel
theorem dX7_rain_48 : decode cX7_rain 48 = .ok (.ldc2_w 177, 3) := by decide +kernel
theorem dX7_rain_51 : decode cX7_rain 51 = .ok (.lreturn, 1) := by decide +kernel
theorem dX7_rain_52 : decode cX7_rain 52 = .ok (.aload_n 0, 1) := by decide +kernel
theorem dX7_rain_53 : decode cX7_rain 53 = .ok (.getfield 51, 3) := by decide +kernel
theorem dX7_rain_56 : decode cX7_rain 56 = .ok (.iload_n 1, 1) := by decide +kernel
theorem dX7_rain_57 : decode cX7_rain 57 = .ok (.iload_n 2, 1) := by decide +kernel
theorem dX7_rain_58 : decode cX7_rain 58 = .ok (.iload_n 3, 1) := by decide +kernel
theorem dX7_rain_59 : decode cX7_rain 59 = .ok (.iload 4, 2) := by decide +kernel
theorem dX7_rain_61 : decode cX7_rain 61 = .ok (.invokevirtual 179, 3) := by decide +kernel
theorem dX7_rain_64 : decode cX7_rain 64 = .ok (.iload 5, 2) := by decide +kernel
theorem dX7_rain_66 : decode cX7_rain 66 = .ok (.ifCond .ne 13, 3) := by decide +kernel
theorem dX7_rain_69 : decode cX7_rain 69 = .ok (.aload_n 0, 1) := by decide +kernel
theorem dX7_rain_70 : decode cX7_rain 70 = .ok (.getfield 51, 3) := by decide +kernel
theorem dX7_rain_73 : decode cX7_rain 73 = .ok (.getfield 183, 3) := by decide +kernel
theorem dX7_rain_76 : decode cX7_rain 76 = .ok (.goto 10, 3) := by decide +kernel
theorem dX7_rain_79 : decode cX7_rain 79 = .ok (.aload_n 0, 1) := by decide +kernel
theorem dX7_rain_80 : decode cX7_rain 80 = .ok (.getfield 51, 3) := by decide +kernel
theorem dX7_rain_83 : decode cX7_rain 83 = .ok (.getfield 187, 3) := by decide +kernel
theorem dX7_rain_86 : decode cX7_rain 86 = .ok (.lreturn, 1) := by decide +kernel
set_option maxRecDepth 20000 in
theorem ggX7_year_X7_within : GoodIn wsX7_year wsX7_within := goodIn_r _ [8] (by decide +kernel) (by decide +kernel)
set_option maxRecDepth 20000 in
theorem gX7_year_X7_within : GoodIn wsX7_year (va_wsS RX7 59 yX7_within wsX7_within) := goodIn_app (goodIn_of _ (by decide +kernel)) ggX7_year_X7_within
set_option maxRecDepth 20000 in
theorem ggX7_year_X7_isHour : GoodIn wsX7_year wsX7_isHour := goodIn_r _ [11] (by decide +kernel) (by decide +kernel)
set_option maxRecDepth 20000 in
theorem gX7_year_X7_isHour : GoodIn wsX7_year (va_wsS RX7 108 yX7_isHour wsX7_isHour) := goodIn_app (goodIn_of _ (by decide +kernel)) ggX7_year_X7_isHour
set_option maxRecDepth 20000 in
theorem ggX7_year_X1_drawYear : GoodIn wsX7_year wsX1_drawYear := goodIn_r _ [16, 17, 18, 19, 20, 21, 22, 23, 24, 25, 26, 27, 28, 29, 30, 31, 32, 33, 34, 35, 36, 37, 38, 39, 40, 41, 42, 43, 44, 7, 45, 46, 47, 48, 49, 50, 51, 52, 53, 54, 55, 56, 57, 58, 59, 60, 61, 62, 63, 64, 65, 66, 67, 68, 69, 70, 71, 72, 80, 81, 82, 83, 84, 85, 86, 87, 88, 89, 90, 91, 92, 93, 94, 95, 96, 97, 98, 99, 100, 101, 102, 103] (by decide +kernel) (by decide +kernel)
set_option maxRecDepth 20000 in
theorem gX7_year_X1_drawYear : GoodIn wsX7_year (wsV RX7 190 RX1 yX1_drawYear wsX1_drawYear) := goodIn_app (goodIn_of _ (by decide +kernel)) ggX7_year_X1_drawYear
theorem dX7_year_0 : decode cX7_year 0 = .ok (.iload_n 1, 1) := by decide +kernel
theorem dX7_year_1 : decode cX7_year 1 = .ok (.iconst 0, 1) := by decide +kernel
theorem dX7_year_2 : decode cX7_year 2 = .ok (.sipush 9999, 3) := by decide +kernel
theorem dX7_year_5 : decode cX7_year 5 = .ok (.invokestatic 59, 3) := by decide +kernel
theorem dX7_year_8 : decode cX7_year 8 = .ok (.ifCond .eq 30, 3) := by decide +kernel
theorem dX7_year_11 : decode cX7_year 11 = .ok (.iload_n 2, 1) := by decide +kernel
theorem dX7_year_12 : decode cX7_year 12 = .ok (.iconst 1, 1) := by decide +kernel
theorem dX7_year_13 : decode cX7_year 13 = .ok (.bipush 99, 2) := by decide +kernel
theorem dX7_year_15 : decode cX7_year 15 = .ok (.invokestatic 59, 3) := by decide +kernel
theorem dX7_year_18 : decode cX7_year 18 = .ok (.ifCond .eq 20, 3) := by decide +kernel
theorem dX7_year_21 : decode cX7_year 21 = .ok (.iload_n 3, 1) := by decide +kernel
theorem dX7_year_22 : decode cX7_year 22 = .ok (.invokestatic 108, 3) := by decide +kernel
theorem dX7_year_25 : decode cX7_year 25 = .ok (.ifCond .eq 13, 3) := by decide +kernel
theorem dX7_year_28 : decode cX7_year 28 = .ok (.iload 4, 2) := by decide +kernel
theorem dX7_year_30 : decode cX7_year 30 = .ok (.iconst 0, 1) := by decide +kernel
theorem dX7_year_31 : decode cX7_year 31 = .ok (.iconst 2, 1) := by decide +kernel
theorem dX7_year_32 : decode cX7_year 32 = .ok (.invokestatic 59, 3) := by decide +kernel
theorem dX7_year_35 : decode cX7_year 35 = .ok (.ifCond .ne 6, 3) := by decide +kernel
theorem dX7_year_38 : decode cX7_year 38 = .ok (.bipush (-2), 2) := by decide +kernel
theorem dX7_year_40 : decode cX7_year 40 = .ok (.ireturn, 1) := by decide +kernel
theorem dX7_year_41 : decode cX7_year 41 = .ok (.aload_n 0, 1) := by decide +kernel
theorem dX7_year_42 : decode cX7_year 42 = .ok (.getfield 51, 3) := by decide +kernel
theorem dX7_year_45 : decode cX7_year 45 = .ok (.iload_n 1, 1) := by decide +kernel
theorem dX7_year_46 : decode cX7_year 46 = .ok (.iload_n 2, 1) := by decide +kernel
theorem dX7_year_47 : decode cX7_year 47 = .ok (.iload_n 3, 1) := by decide +kernel
theorem dX7_year_48 : decode cX7_year 48 = .ok (.invokevirtual 190, 3) := by decide +kernel
theorem dX7_year_51 : decode cX7_year 51 = .ok (.iload 4, 2) := by decide +kernel
theorem dX7_year_53 : decode cX7_year 53 = .ok (.ifCond .ne 11, 3) := by decide +kernel
theorem dX7_year_56 : decode cX7_year 56 = .ok (.aload_n 0, 1) := by decide +kernel
theorem dX7_year_57 : decode cX7_year 57 = .ok (.getfield 51, 3) := by decide +kernel
theorem dX7_year_60 : decode cX7_year 60 = .ok (.getfield 194, 3) := by decide +kernel
theorem dX7_year_63 : decode cX7_year 63 = .ok (.ireturn, 1) := by decide +kernel
theorem dX7_year_64 : decode cX7_year 64 = .ok (.iload 4, 2) := by decide +kernel
theorem dX7_year_66 : decode cX7_year 66 = .ok (.iconst 1, 1) := by decide +kernel
theorem dX7_year_67 : decode cX7_year 67 = .ok (.if_icmp .ne 13, 3) := by decide +kernel
theorem dX7_year_70 : decode cX7_year 70 = .ok (.aload_n 0, 1) := by decide +kernel
theorem dX7_year_71 : decode cX7_year 71 = .ok (.getfield 51, 3) := by decide +kernel
theorem dX7_year_74 : decode cX7_year 74 = .ok (.getfield 197, 3) := by decide +kernel
theorem dX7_year_77 : decode cX7_year 77 = .ok (.goto 10, 3) := by decide +kernel
theorem dX7_year_80 : decode cX7_year 80 = .ok (.aload_n 0, 1) := by decide +kernel
theorem dX7_year_81 : decode cX7_year 81 = .ok (.getfield 51, 3) := by decide +kernel
theorem dX7_year_84 : decode cX7_year 84 = .ok (.getfield 200, 3) := by decide +kernel
theorem dX7_year_87 : decode cX7_year 87 = .ok (.ireturn, 1) := by decide +kernel
set_option maxRecDepth 20000 in
theorem ggX7_image_X7_within : GoodIn wsX7_image wsX7_within := goodIn_r _ [9] (by decide +kernel) (by decide +kernel)
set_option maxRecDepth 20000 in
theorem gX7_image_X7_within : GoodIn wsX7_image (va_wsS RX7 59 yX7_within wsX7_within) := goodIn_app (goodIn_of _ (by decide +kernel)) ggX7_image_X7_within
set_option maxRecDepth 20000 in
theorem ggX7_image_X3_init : GoodIn wsX7_image wsX3_init := goodIn_r _ [12, 13, 14, 15, 16, 17, 18, 19, 20, 21, 22, 23, 24, 25, 26, 27, 28, 29, 30, 31, 32, 33, 34, 35, 36, 37, 65, 66, 67, 68, 69, 70, 71, 72, 73, 74, 75] (by decide +kernel) (by decide +kernel)
set_option maxRecDepth 20000 in
theorem gX7_image_X3_init : GoodIn wsX7_image (wsX3_init) := ggX7_image_X3_init
set_option maxRecDepth 20000 in
theorem ggX7_image_X3_become : GoodIn wsX7_image wsX3_become := goodIn_r _ [41, 27, 26, 42, 23, 43, 44, 17, 45, 46, 47, 48, 18, 19, 24, 25, 49, 50, 51, 22, 52, 53, 54, 55, 56, 33, 32, 57, 65, 66, 67, 68, 69, 70, 71, 72, 73, 74, 75] (by decide +kernel) (by decide +kernel)
set_option maxRecDepth 20000 in
theorem gX7_image_X3_become : GoodIn wsX7_image (wsV RX7 203 RX3 yX3_become wsX3_become) := goodIn_app (goodIn_of _ (by decide +kernel)) ggX7_image_X3_become
theorem dX7_image_0 : decode cX7_image 0 = .ok (.iload_n 1, 1) := by decide +kernel
theorem dX7_image_1 : decode cX7_image 1 = .ok (.iconst 0, 1) := by decide +kernel
theorem dX7_image_2 : decode cX7_image 2 = .ok (.iconst 1, 1) := by decide +kernel
theorem dX7_image_3 : decode cX7_image 3 = .ok (.invokestatic 59, 3) := by decide +kernel
theorem dX7_image_6 : decode cX7_image 6 = .ok (.ifCond .ne 6, 3) := by decide +kernel
theorem dX7_image_9 : decode cX7_image 9 = .ok (.bipush (-2), 2) := by decide +kernel
theorem dX7_image_11 : decode cX7_image 11 = .ok (.ireturn, 1) := by decide +kernel
theorem dX7_image_12 : decode cX7_image 12 = .ok (.aload_n 0, 1) := by decide +kernel
theorem dX7_image_13 : decode cX7_image 13 = .ok (.getfield 55, 3) := by decide +kernel
theorem dX7_image_16 : decode cX7_image 16 = .ok (.iload_n 1, 1) := by decide +kernel
theorem dX7_image_17 : decode cX7_image 17 = .ok (.aaload, 1) := by decide +kernel
theorem dX7_image_18 : decode cX7_image 18 = .ok (.astore_n 2, 1) := by decide +kernel
theorem dX7_image_19 : decode cX7_image 19 = .ok (.aload_n 2, 1) := by decide +kernel
theorem dX7_image_20 : decode cX7_image 20 = .ok (.ifnonnull 18, 3) := by decide +kernel
theorem dX7_image_23 : decode cX7_image 23 = .ok (.new 7, 3) := by decide +kernel
theorem dX7_image_26 : decode cX7_image 26 = .ok (.dup, 1) := by decide +kernel
theorem dX7_image_27 : decode cX7_image 27 = .ok (.invokespecial 9, 3) := by decide +kernel
theorem dX7_image_30 : decode cX7_image 30 = .ok (.astore_n 2, 1) := by decide +kernel
theorem dX7_image_31 : decode cX7_image 31 = .ok (.aload_n 0, 1) := by decide +kernel
theorem dX7_image_32 : decode cX7_image 32 = .ok (.getfield 55, 3) := by decide +kernel
theorem dX7_image_35 : decode cX7_image 35 = .ok (.iload_n 1, 1) := by decide +kernel
theorem dX7_image_36 : decode cX7_image 36 = .ok (.aload_n 2, 1) := by decide +kernel
theorem dX7_image_37 : decode cX7_image 37 = .ok (.aastore, 1) := by decide +kernel
theorem dX7_image_38 : decode cX7_image 38 = .ok (.aload_n 2, 1) := by decide +kernel
theorem dX7_image_39 : decode cX7_image 39 = .ok (.aload_n 0, 1) := by decide +kernel
theorem dX7_image_40 : decode cX7_image 40 = .ok (.getfield 15, 3) := by decide +kernel
theorem dX7_image_43 : decode cX7_image 43 = .ok (.invokevirtual 203, 3) := by decide +kernel
theorem dX7_image_46 : decode cX7_image 46 = .ok (.iconst 1, 1) := by decide +kernel
theorem dX7_image_47 : decode cX7_image 47 = .ok (.ireturn, 1) := by decide +kernel
set_option maxRecDepth 20000 in
theorem ggX7_restore_X7_within : GoodIn wsX7_restore wsX7_within := goodIn_r _ [6] (by decide +kernel) (by decide +kernel)
set_option maxRecDepth 20000 in
theorem gX7_restore_X7_within : GoodIn wsX7_restore (va_wsS RX7 59 yX7_within wsX7_within) := goodIn_app (goodIn_of _ (by decide +kernel)) ggX7_restore_X7_within
set_option maxRecDepth 20000 in
theorem ggX7_restore_X3_become : GoodIn wsX7_restore wsX3_become := goodIn_r _ [11, 12, 13, 14, 15, 16, 17, 18, 19, 20, 21, 22, 23, 24, 25, 26, 27, 28, 29, 30, 31, 32, 33, 34, 35, 36, 37, 38, 46, 47, 48, 49, 50, 51, 52, 53, 54, 55, 56] (by decide +kernel) (by decide +kernel)
set_option maxRecDepth 20000 in
theorem gX7_restore_X3_become : GoodIn wsX7_restore (wsV RX7 203 RX3 yX3_become wsX3_become) := goodIn_app (goodIn_of _ (by decide +kernel)) ggX7_restore_X3_become
theorem dX7_restore_0 : decode cX7_restore 0 = .ok (.iload_n 1, 1) := by decide +kernel
theorem dX7_restore_1 : decode cX7_restore 1 = .ok (.iconst 0, 1) := by decide +kernel
theorem dX7_restore_2 : decode cX7_restore 2 = .ok (.iconst 1, 1) := by decide +kernel
theorem dX7_restore_3 : decode cX7_restore 3 = .ok (.invokestatic 59, 3) := by decide +kernel
theorem dX7_restore_6 : decode cX7_restore 6 = .ok (.ifCond .ne 6, 3) := by decide +kernel
theorem dX7_restore_9 : decode cX7_restore 9 = .ok (.bipush (-2), 2) := by decide +kernel
theorem dX7_restore_11 : decode cX7_restore 11 = .ok (.ireturn, 1) := by decide +kernel
theorem dX7_restore_12 : decode cX7_restore 12 = .ok (.aload_n 0, 1) := by decide +kernel
theorem dX7_restore_13 : decode cX7_restore 13 = .ok (.getfield 55, 3) := by decide +kernel
theorem dX7_restore_16 : decode cX7_restore 16 = .ok (.iload_n 1, 1) := by decide +kernel
theorem dX7_restore_17 : decode cX7_restore 17 = .ok (.aaload, 1) := by decide +kernel
theorem dX7_restore_18 : decode cX7_restore 18 = .ok (.astore_n 2, 1) := by decide +kernel
theorem dX7_restore_19 : decode cX7_restore 19 = .ok (.aload_n 2, 1) := by decide +kernel
theorem dX7_restore_20 : decode cX7_restore 20 = .ok (.ifnonnull 6, 3) := by decide +kernel
theorem dX7_restore_23 : decode cX7_restore 23 = .ok (.bipush (-3), 2) := by decide +kernel
theorem dX7_restore_25 : decode cX7_restore 25 = .ok (.ireturn, 1) := by decide +kernel
theorem dX7_restore_26 : decode cX7_restore 26 = .ok (.aload_n 0, 1) := by decide +kernel
theorem dX7_restore_27 : decode cX7_restore 27 = .ok (.getfield 15, 3) := by decide +kernel
theorem dX7_restore_30 : decode cX7_restore 30 = .ok (.aload_n 2, 1) := by decide +kernel
theorem dX7_restore_31 : decode cX7_restore 31 = .ok (.invokevirtual 203, 3) := by decide +kernel
theorem dX7_restore_34 : decode cX7_restore 34 = .ok (.iconst 1, 1) := by decide +kernel
theorem dX7_restore_35 : decode cX7_restore 35 = .ok (.ireturn, 1) := by decide +kernel
set_option maxRecDepth 20000 in
theorem ggX7_told_X7_toldOfRows : GoodIn wsX7_told wsX7_toldOfRows := goodIn_r _ [13, 3, 6, 7, 14, 15, 16, 12, 17, 18, 19, 20, 21, 22, 23, 24, 25, 26, 27, 28, 29, 30, 31, 32, 33, 34, 35, 36, 37, 38, 39, 40, 41, 44, 45, 46, 47, 48, 49, 50, 51, 52, 53, 54] (by decide +kernel) (by decide +kernel)
set_option maxRecDepth 20000 in
theorem gX7_told_X7_toldOfRows : GoodIn wsX7_told (wsV RX7 206 RX7 yX7_toldOfRows wsX7_toldOfRows) := goodIn_app (goodIn_of _ (by decide +kernel)) ggX7_told_X7_toldOfRows
theorem dX7_told_0 : decode cX7_told 0 = .ok (.iload_n 1, 1) := by decide +kernel
theorem dX7_told_1 : decode cX7_told 1 = .ok (.tableswitch 78 0 4 #[35, 43, 51, 59, 70], 35) := by decide +kernel
theorem dX7_told_36 : decode cX7_told 36 = .ok (.aload_n 0, 1) := by decide +kernel
theorem dX7_told_37 : decode cX7_told 37 = .ok (.getfield 28, 3) := by decide +kernel
theorem dX7_told_40 : decode cX7_told 40 = .ok (.getfield 82, 3) := by decide +kernel
theorem dX7_told_43 : decode cX7_told 43 = .ok (.ireturn, 1) := by decide +kernel
theorem dX7_told_44 : decode cX7_told 44 = .ok (.aload_n 0, 1) := by decide +kernel
theorem dX7_told_45 : decode cX7_told 45 = .ok (.getfield 15, 3) := by decide +kernel
theorem dX7_told_48 : decode cX7_told 48 = .ok (.getfield 63, 3) := by decide +kernel
theorem dX7_told_51 : decode cX7_told 51 = .ok (.ireturn, 1) := by decide +kernel
theorem dX7_told_52 : decode cX7_told 52 = .ok (.aload_n 0, 1) := by decide +kernel
theorem dX7_told_53 : decode cX7_told 53 = .ok (.getfield 15, 3) := by decide +kernel
theorem dX7_told_56 : decode cX7_told 56 = .ok (.getfield 79, 3) := by decide +kernel
theorem dX7_told_59 : decode cX7_told 59 = .ok (.ireturn, 1) := by decide +kernel
theorem dX7_told_60 : decode cX7_told 60 = .ok (.aload_n 0, 1) := by decide +kernel
theorem dX7_told_61 : decode cX7_told 61 = .ok (.getfield 15, 3) := by decide +kernel
theorem dX7_told_64 : decode cX7_told 64 = .ok (.getfield 91, 3) := by decide +kernel
theorem dX7_told_67 : decode cX7_told 67 = .ok (.getfield 105, 3) := by decide +kernel
theorem dX7_told_70 : decode cX7_told 70 = .ok (.ireturn, 1) := by decide +kernel
theorem dX7_told_71 : decode cX7_told 71 = .ok (.aload_n 0, 1) := by decide +kernel
theorem dX7_told_72 : decode cX7_told 72 = .ok (.getfield 15, 3) := by decide +kernel
theorem dX7_told_75 : decode cX7_told 75 = .ok (.getfield 168, 3) := by decide +kernel
theorem dX7_told_78 : decode cX7_told 78 = .ok (.ireturn, 1) := by decide +kernel
theorem dX7_told_79 : decode cX7_told 79 = .ok (.aload_n 0, 1) := by decide +kernel
theorem dX7_told_80 : decode cX7_told 80 = .ok (.iload_n 1, 1) := by decide +kernel
theorem dX7_told_81 : decode cX7_told 81 = .ok (.invokevirtual 206, 3) := by decide +kernel
theorem dX7_told_84 : decode cX7_told 84 = .ok (.ireturn, 1) := by decide +kernel
set_option maxRecDepth 20000 in
theorem ggX7_toldOfRows_X7_within : GoodIn wsX7_toldOfRows wsX7_within := goodIn_r _ [8] (by decide +kernel) (by decide +kernel)
set_option maxRecDepth 20000 in
theorem gX7_toldOfRows_X7_within : GoodIn wsX7_toldOfRows (va_wsS RX7 59 yX7_within wsX7_within) := goodIn_app (goodIn_of _ (by decide +kernel)) ggX7_toldOfRows_X7_within
set_option maxRecDepth 20000 in
theorem ggX7_toldOfRows_X3_toldOfMember : GoodIn wsX7_toldOfRows wsX3_toldOfMember := goodIn_r _ [13, 14, 15, 16, 12, 17, 18, 19, 20, 21, 22, 23, 24, 25, 33, 34, 35, 36, 37, 38, 39, 40, 41] (by decide +kernel) (by decide +kernel)
set_option maxRecDepth 20000 in
theorem gX7_toldOfRows_X3_toldOfMember : GoodIn wsX7_toldOfRows (wsV RX7 209 RX3 yX3_toldOfMember wsX3_toldOfMember) := goodIn_app (goodIn_of _ (by decide +kernel)) ggX7_toldOfRows_X3_toldOfMember
theorem dX7_toldOfRows_0 : decode cX7_toldOfRows 0 = .ok (.iload_n 1, 1) := by decide +kernel
theorem dX7_toldOfRows_1 : decode cX7_toldOfRows 1 = .ok (.bipush 10, 2) := by decide +kernel
theorem dX7_toldOfRows_3 : decode cX7_toldOfRows 3 = .ok (.bipush 39, 2) := by decide +kernel
theorem dX7_toldOfRows_5 : decode cX7_toldOfRows 5 = .ok (.invokestatic 59, 3) := by decide +kernel
theorem dX7_toldOfRows_8 : decode cX7_toldOfRows 8 = .ok (.ifCond .eq 21, 3) := by decide +kernel
theorem dX7_toldOfRows_11 : decode cX7_toldOfRows 11 = .ok (.aload_n 0, 1) := by decide +kernel
theorem dX7_toldOfRows_12 : decode cX7_toldOfRows 12 = .ok (.getfield 15, 3) := by decide +kernel
theorem dX7_toldOfRows_15 : decode cX7_toldOfRows 15 = .ok (.iload_n 1, 1) := by decide +kernel
theorem dX7_toldOfRows_16 : decode cX7_toldOfRows 16 = .ok (.bipush 10, 2) := by decide +kernel
theorem dX7_toldOfRows_18 : decode cX7_toldOfRows 18 = .ok (.idiv, 1) := by decide +kernel
theorem dX7_toldOfRows_19 : decode cX7_toldOfRows 19 = .ok (.iconst 1, 1) := by decide +kernel
theorem dX7_toldOfRows_20 : decode cX7_toldOfRows 20 = .ok (.isub, 1) := by decide +kernel
theorem dX7_toldOfRows_21 : decode cX7_toldOfRows 21 = .ok (.iload_n 1, 1) := by decide +kernel
theorem dX7_toldOfRows_22 : decode cX7_toldOfRows 22 = .ok (.bipush 10, 2) := by decide +kernel
theorem dX7_toldOfRows_24 : decode cX7_toldOfRows 24 = .ok (.irem, 1) := by decide +kernel
theorem dX7_toldOfRows_25 : decode cX7_toldOfRows 25 = .ok (.invokevirtual 209, 3) := by decide +kernel
theorem dX7_toldOfRows_28 : decode cX7_toldOfRows 28 = .ok (.ireturn, 1) := by decide +kernel
theorem dX7_toldOfRows_29 : decode cX7_toldOfRows 29 = .ok (.iload_n 1, 1) := by decide +kernel
theorem dX7_toldOfRows_30 : decode cX7_toldOfRows 30 = .ok (.bipush 40, 2) := by decide +kernel
theorem dX7_toldOfRows_32 : decode cX7_toldOfRows 32 = .ok (.if_icmp .lt 36, 3) := by decide +kernel
theorem dX7_toldOfRows_35 : decode cX7_toldOfRows 35 = .ok (.iload_n 1, 1) := by decide +kernel
theorem dX7_toldOfRows_36 : decode cX7_toldOfRows 36 = .ok (.bipush 40, 2) := by decide +kernel
theorem dX7_toldOfRows_38 : decode cX7_toldOfRows 38 = .ok (.isub, 1) := by decide +kernel
theorem dX7_toldOfRows_39 : decode cX7_toldOfRows 39 = .ok (.aload_n 0, 1) := by decide +kernel
theorem dX7_toldOfRows_40 : decode cX7_toldOfRows 40 = .ok (.getfield 15, 3) := by decide +kernel
theorem dX7_toldOfRows_43 : decode cX7_toldOfRows 43 = .ok (.getfield 91, 3) := by decide +kernel
theorem dX7_toldOfRows_46 : decode cX7_toldOfRows 46 = .ok (.getfield 105, 3) := by decide +kernel
theorem dX7_toldOfRows_49 : decode cX7_toldOfRows 49 = .ok (.if_icmp .ge 19, 3) := by decide +kernel
theorem dX7_toldOfRows_52 : decode cX7_toldOfRows 52 = .ok (.aload_n 0, 1) := by decide +kernel
theorem dX7_toldOfRows_53 : decode cX7_toldOfRows 53 = .ok (.getfield 15, 3) := by decide +kernel
theorem dX7_toldOfRows_56 : decode cX7_toldOfRows 56 = .ok (.getfield 91, 3) := by decide +kernel
theorem dX7_toldOfRows_59 : decode cX7_toldOfRows 59 = .ok (.getfield 212, 3) := by decide +kernel
theorem dX7_toldOfRows_62 : decode cX7_toldOfRows 62 = .ok (.iload_n 1, 1) := by decide +kernel
theorem dX7_toldOfRows_63 : decode cX7_toldOfRows 63 = .ok (.bipush 40, 2) := by decide +kernel
theorem dX7_toldOfRows_65 : decode cX7_toldOfRows 65 = .ok (.isub, 1) := by decide +kernel
theorem dX7_toldOfRows_66 : decode cX7_toldOfRows 66 = .ok (.iaload, 1) := by decide +kernel
theorem dX7_toldOfRows_67 : decode cX7_toldOfRows 67 = .ok (.ireturn, 1) := by decide +kernel
theorem dX7_toldOfRows_68 : decode cX7_toldOfRows 68 = .ok (.bipush (-2), 2) := by decide +kernel
theorem dX7_toldOfRows_70 : decode cX7_toldOfRows 70 = .ok (.ireturn, 1) := by decide +kernel
theorem dX7_within_0 : decode cX7_within 0 = .ok (.iload_n 0, 1) := by decide +kernel
theorem dX7_within_1 : decode cX7_within 1 = .ok (.iload_n 1, 1) := by decide +kernel
theorem dX7_within_2 : decode cX7_within 2 = .ok (.if_icmp .lt 12, 3) := by decide +kernel
theorem dX7_within_5 : decode cX7_within 5 = .ok (.iload_n 0, 1) := by decide +kernel
theorem dX7_within_6 : decode cX7_within 6 = .ok (.iload_n 2, 1) := by decide +kernel
theorem dX7_within_7 : decode cX7_within 7 = .ok (.if_icmp .gt 7, 3) := by decide +kernel
theorem dX7_within_10 : decode cX7_within 10 = .ok (.iconst 1, 1) := by decide +kernel
theorem dX7_within_11 : decode cX7_within 11 = .ok (.goto 4, 3) := by decide +kernel
theorem dX7_within_14 : decode cX7_within 14 = .ok (.iconst 0, 1) := by decide +kernel
theorem dX7_within_15 : decode cX7_within 15 = .ok (.ireturn, 1) := by decide +kernel
theorem dX7_isHour_0 : decode cX7_isHour 0 = .ok (.iload_n 0, 1) := by decide +kernel
theorem dX7_isHour_1 : decode cX7_isHour 1 = .ok (.ifCond .lt 13, 3) := by decide +kernel
theorem dX7_isHour_4 : decode cX7_isHour 4 = .ok (.iload_n 0, 1) := by decide +kernel
theorem dX7_isHour_5 : decode cX7_isHour 5 = .ok (.bipush 23, 2) := by decide +kernel
theorem dX7_isHour_7 : decode cX7_isHour 7 = .ok (.if_icmp .gt 7, 3) := by decide +kernel
theorem dX7_isHour_10 : decode cX7_isHour 10 = .ok (.iconst 1, 1) := by decide +kernel
theorem dX7_isHour_11 : decode cX7_isHour 11 = .ok (.goto 4, 3) := by decide +kernel
theorem dX7_isHour_14 : decode cX7_isHour 14 = .ok (.iconst 0, 1) := by decide +kernel
theorem dX7_isHour_15 : decode cX7_isHour 15 = .ok (.ireturn, 1) := by decide +kernel
theorem dX7_comingAt_0 : decode cX7_comingAt 0 = .ok (.bipush 23, 2) := by decide +kernel
theorem dX7_comingAt_2 : decode cX7_comingAt 2 = .ok (.iload_n 0, 1) := by decide +kernel
theorem dX7_comingAt_3 : decode cX7_comingAt 3 = .ok (.iload_n 1, 1) := by decide +kernel
theorem dX7_comingAt_4 : decode cX7_comingAt 4 = .ok (.invokestatic 213, 3) := by decide +kernel
theorem dX7_comingAt_7 : decode cX7_comingAt 7 = .ok (.iload_n 2, 1) := by decide +kernel
theorem dX7_comingAt_8 : decode cX7_comingAt 8 = .ok (.iadd, 1) := by decide +kernel
theorem dX7_comingAt_9 : decode cX7_comingAt 9 = .ok (.invokestatic 218, 3) := by decide +kernel
theorem dX7_comingAt_12 : decode cX7_comingAt 12 = .ok (.ireturn, 1) := by decide +kernel
set_option maxRecDepth 20000 in
theorem ggX8_init_X8_plain : GoodIn wsX8_init wsX8_plain := goodIn_r _ [27, 6, 7, 8, 28, 29, 30, 31, 32, 33, 34, 35, 36, 37, 38, 39, 40, 41, 42, 43, 44, 45, 46, 47, 48, 49, 50, 51] (by decide +kernel) (by decide +kernel)
set_option maxRecDepth 20000 in
theorem gX8_init_X8_plain : GoodIn wsX8_init (wsV RX8 63 RX8 yX8_plain wsX8_plain) := goodIn_app (goodIn_of _ (by decide +kernel)) ggX8_init_X8_plain
theorem dX8_init_0 : decode cX8_init 0 = .ok (.aload_n 0, 1) := by decide +kernel
theorem dX8_init_1 : decode cX8_init 1 = .ok (.invokespecial 1, 3) := by decide +kernel
theorem dX8_init_4 : decode cX8_init 4 = .ok (.aload_n 0, 1) := by decide +kernel
theorem dX8_init_5 : decode cX8_init 5 = .ok (.iconst 4, 1) := by decide +kernel
theorem dX8_init_6 : decode cX8_init 6 = .ok (.putfield 7, 3) := by decide +kernel
theorem dX8_init_9 : decode cX8_init 9 = .ok (.aload_n 0, 1) := by decide +kernel
theorem dX8_init_10 : decode cX8_init 10 = .ok (.bipush 6, 2) := by decide +kernel
theorem dX8_init_12 : decode cX8_init 12 = .ok (.newarray .int, 2) := by decide +kernel
theorem dX8_init_14 : decode cX8_init 14 = .ok (.putfield 13, 3) := by decide +kernel
theorem dX8_init_17 : decode cX8_init 17 = .ok (.aload_n 0, 1) := by decide +kernel
theorem dX8_init_18 : decode cX8_init 18 = .ok (.bipush 6, 2) := by decide +kernel
theorem dX8_init_20 : decode cX8_init 20 = .ok (.newarray .int, 2) := by decide +kernel
theorem dX8_init_22 : decode cX8_init 22 = .ok (.putfield 17, 3) := by decide +kernel
theorem dX8_init_25 : decode cX8_init 25 = .ok (.aload_n 0, 1) := by decide +kernel
theorem dX8_init_26 : decode cX8_init 26 = .ok (.bipush 6, 2) := by decide +kernel
theorem dX8_init_28 : decode cX8_init 28 = .ok (.newarray .int, 2) := by decide +kernel
theorem dX8_init_30 : decode cX8_init 30 = .ok (.putfield 20, 3) := by decide +kernel
theorem dX8_init_33 : decode cX8_init 33 = .ok (.aload_n 0, 1) := by decide +kernel
theorem dX8_init_34 : decode cX8_init 34 = .ok (.iconst 1, 1) := by decide +kernel
theorem dX8_init_35 : decode cX8_init 35 = .ok (.putfield 23, 3) := by decide +kernel
theorem dX8_init_38 : decode cX8_init 38 = .ok (.aload_n 0, 1) := by decide +kernel
theorem dX8_init_39 : decode cX8_init 39 = .ok (.iconst 1, 1) := by decide +kernel
theorem dX8_init_40 : decode cX8_init 40 = .ok (.putfield 26, 3) := by decide +kernel
theorem dX8_init_43 : decode cX8_init 43 = .ok (.aload_n 0, 1) := by decide +kernel
theorem dX8_init_44 : decode cX8_init 44 = .ok (.bipush 20, 2) := by decide +kernel
theorem dX8_init_46 : decode cX8_init 46 = .ok (.newarray .int, 2) := by decide +kernel
theorem dX8_init_48 : decode cX8_init 48 = .ok (.putfield 29, 3) := by decide +kernel
theorem dX8_init_51 : decode cX8_init 51 = .ok (.aload_n 0, 1) := by decide +kernel
theorem dX8_init_52 : decode cX8_init 52 = .ok (.bipush 12, 2) := by decide +kernel
theorem dX8_init_54 : decode cX8_init 54 = .ok (.newarray .int, 2) := by decide +kernel
theorem dX8_init_56 : decode cX8_init 56 = .ok (.putfield 32, 3) := by decide +kernel
theorem dX8_init_59 : decode cX8_init 59 = .ok (.aload_n 0, 1) := by decide +kernel
theorem dX8_init_60 : decode cX8_init 60 = .ok (.bipush 48, 2) := by decide +kernel
theorem dX8_init_62 : decode cX8_init 62 = .ok (.newarray .int, 2) := by decide +kernel
theorem dX8_init_64 : decode cX8_init 64 = .ok (.putfield 35, 3) := by decide +kernel
theorem dX8_init_67 : decode cX8_init 67 = .ok (.aload_n 0, 1) := by decide +kernel
theorem dX8_init_68 : decode cX8_init 68 = .ok (.bipush 6, 2) := by decide +kernel
theorem dX8_init_70 : decode cX8_init 70 = .ok (.newarray .int, 2) := by decide +kernel
theorem dX8_init_72 : decode cX8_init 72 = .ok (.putfield 38, 3) := by decide +kernel
theorem dX8_init_75 : decode cX8_init 75 = .ok (.aload_n 0, 1) := by decide +kernel
theorem dX8_init_76 : decode cX8_init 76 = .ok (.bipush 6, 2) := by decide +kernel
theorem dX8_init_78 : decode cX8_init 78 = .ok (.newarray .int, 2) := by decide +kernel
theorem dX8_init_80 : decode cX8_init 80 = .ok (.putfield 41, 3) := by decide +kernel
theorem dX8_init_83 : decode cX8_init 83 = .ok (.aload_n 0, 1) := by decide +kernel
theorem dX8_init_84 : decode cX8_init 84 = .ok (.bipush 24, 2) := by decide +kernel
theorem dX8_init_86 : decode cX8_init 86 = .ok (.newarray .int, 2) := by decide +kernel
theorem dX8_init_88 : decode cX8_init 88 = .ok (.putfield 44, 3) := by decide +kernel
theorem dX8_init_91 : decode cX8_init 91 = .ok (.aload_n 0, 1) := by decide +kernel
theorem dX8_init_92 : decode cX8_init 92 = .ok (.bipush 24, 2) := by decide +kernel
theorem dX8_init_94 : decode cX8_init 94 = .ok (.newarray .int, 2) := by decide +kernel
theorem dX8_init_96 : decode cX8_init 96 = .ok (.putfield 47, 3) := by decide +kernel
theorem dX8_init_99 : decode cX8_init 99 = .ok (.aload_n 0, 1) := by decide +kernel
theorem dX8_init_100 : decode cX8_init 100 = .ok (.sipush 4096, 3) := by decide +kernel
theorem dX8_init_103 : decode cX8_init 103 = .ok (.newarray .int, 2) := by decide +kernel
theorem dX8_init_105 : decode cX8_init 105 = .ok (.putfield 50, 3) := by decide +kernel
theorem dX8_init_108 : decode cX8_init 108 = .ok (.aload_n 0, 1) := by decide +kernel
theorem dX8_init_109 : decode cX8_init 109 = .ok (.bipush 20, 2) := by decide +kernel
theorem dX8_init_111 : decode cX8_init 111 = .ok (.newarray .int, 2) := by decide +kernel
theorem dX8_init_113 : decode cX8_init 113 = .ok (.putfield 53, 3) := by decide +kernel
theorem dX8_init_116 : decode cX8_init 116 = .ok (.aload_n 0, 1) := by decide +kernel
theorem dX8_init_117 : decode cX8_init 117 = .ok (.bipush 112, 2) := by decide +kernel
theorem dX8_init_119 : decode cX8_init 119 = .ok (.newarray .int, 2) := by decide +kernel
theorem dX8_init_121 : decode cX8_init 121 = .ok (.putfield 56, 3) := by decide +kernel
theorem dX8_init_124 : decode cX8_init 124 = .ok (.aload_n 0, 1) := by decide +kernel
theorem dX8_init_125 : decode cX8_init 125 = .ok (.iconst 2, 1) := by decide +kernel
theorem dX8_init_126 : decode cX8_init 126 = .ok (.newarray .boolean, 2) := by decide +kernel
theorem dX8_init_128 : decode cX8_init 128 = .ok (.putfield 59, 3) := by decide +kernel
theorem dX8_init_131 : decode cX8_init 131 = .ok (.aload_n 0, 1) := by decide +kernel
theorem dX8_init_132 : decode cX8_init 132 = .ok (.getfield 29, 3) := by decide +kernel
theorem dX8_init_135 : decode cX8_init 135 = .ok (.iconst 0, 1) := by decide +kernel
theorem dX8_init_136 : decode cX8_init 136 = .ok (.bipush 108, 2) := by decide +kernel
theorem dX8_init_138 : decode cX8_init 138 = .ok (.iastore, 1) := by decide +kernel
theorem dX8_init_139 : decode cX8_init 139 = .ok (.aload_n 0, 1) := by decide +kernel
theorem dX8_init_140 : decode cX8_init 140 = .ok (.invokevirtual 63, 3) := by decide +kernel
theorem dX8_init_143 : decode cX8_init 143 = .ok (.return_, 1) := by decide +kernel
theorem dX8_plain_0 : decode cX8_plain 0 = .ok (.iconst 0, 1) := by decide +kernel
theorem dX8_plain_1 : decode cX8_plain 1 = .ok (.istore_n 1, 1) := by decide +kernel
theorem dX8_plain_2 : decode cX8_plain 2 = .ok (.iload_n 1, 1) := by decide +kernel
theorem dX8_plain_3 : decode cX8_plain 3 = .ok (.bipush 6, 2) := by decide +kernel
theorem dX8_plain_5 : decode cX8_plain 5 = .ok (.if_icmp .ge 31, 3) := by decide +kernel
theorem dX8_plain_8 : decode cX8_plain 8 = .ok (.aload_n 0, 1) := by decide +kernel
theorem dX8_plain_9 : decode cX8_plain 9 = .ok (.getfield 13, 3) := by decide +kernel
theorem dX8_plain_12 : decode cX8_plain 12 = .ok (.iload_n 1, 1) := by decide +kernel
theorem dX8_plain_13 : decode cX8_plain 13 = .ok (.iconst 0, 1) := by decide +kernel
theorem dX8_plain_14 : decode cX8_plain 14 = .ok (.iastore, 1) := by decide +kernel
theorem dX8_plain_15 : decode cX8_plain 15 = .ok (.aload_n 0, 1) := by decide +kernel
theorem dX8_plain_16 : decode cX8_plain 16 = .ok (.getfield 17, 3) := by decide +kernel
theorem dX8_plain_19 : decode cX8_plain 19 = .ok (.iload_n 1, 1) := by decide +kernel
theorem dX8_plain_20 : decode cX8_plain 20 = .ok (.iconst 0, 1) := by decide +kernel
theorem dX8_plain_21 : decode cX8_plain 21 = .ok (.iastore, 1) := by decide +kernel
theorem dX8_plain_22 : decode cX8_plain 22 = .ok (.aload_n 0, 1) := by decide +kernel
theorem dX8_plain_23 : decode cX8_plain 23 = .ok (.getfield 20, 3) := by decide +kernel
theorem dX8_plain_26 : decode cX8_plain 26 = .ok (.iload_n 1, 1) := by decide +kernel
theorem dX8_plain_27 : decode cX8_plain 27 = .ok (.bipush 12, 2) := by decide +kernel
theorem dX8_plain_29 : decode cX8_plain 29 = .ok (.iastore, 1) := by decide +kernel
theorem dX8_plain_30 : decode cX8_plain 30 = .ok (.iinc 1 1, 3) := by decide +kernel
theorem dX8_plain_33 : decode cX8_plain 33 = .ok (.goto (-31), 3) := by decide +kernel
theorem dX8_plain_36 : decode cX8_plain 36 = .ok (.aload_n 0, 1) := by decide +kernel
theorem dX8_plain_37 : decode cX8_plain 37 = .ok (.iconst 0, 1) := by decide +kernel
theorem dX8_plain_38 : decode cX8_plain 38 = .ok (.putfield 66, 3) := by decide +kernel
theorem dX8_plain_41 : decode cX8_plain 41 = .ok (.return_, 1) := by decide +kernel
theorem dX8_in_0 : decode cX8_in 0 = .ok (.iload_n 0, 1) := by decide +kernel
theorem dX8_in_1 : decode cX8_in 1 = .ok (.iload_n 1, 1) := by decide +kernel
theorem dX8_in_2 : decode cX8_in 2 = .ok (.if_icmp .lt 12, 3) := by decide +kernel
theorem dX8_in_5 : decode cX8_in 5 = .ok (.iload_n 0, 1) := by decide +kernel
theorem dX8_in_6 : decode cX8_in 6 = .ok (.iload_n 2, 1) := by decide +kernel
theorem dX8_in_7 : decode cX8_in 7 = .ok (.if_icmp .gt 7, 3) := by decide +kernel
theorem dX8_in_10 : decode cX8_in 10 = .ok (.iconst 1, 1) := by decide +kernel
theorem dX8_in_11 : decode cX8_in 11 = .ok (.goto 4, 3) := by decide +kernel
theorem dX8_in_14 : decode cX8_in 14 = .ok (.iconst 0, 1) := by decide +kernel
theorem dX8_in_15 : decode cX8_in 15 = .ok (.ireturn, 1) := by decide +kernel
theorem dX8_has_0 : decode cX8_has 0 = .ok (.iload_n 0, 1) := by decide +kernel
theorem dX8_has_1 : decode cX8_has 1 = .ok (.iload_n 1, 1) := by decide +kernel
theorem dX8_has_2 : decode cX8_has 2 = .ok (.ishr, 1) := by decide +kernel
theorem dX8_has_3 : decode cX8_has 3 = .ok (.iconst 1, 1) := by decide +kernel
theorem dX8_has_4 : decode cX8_has 4 = .ok (.iand, 1) := by decide +kernel
theorem dX8_has_5 : decode cX8_has 5 = .ok (.iconst 1, 1) := by decide +kernel
theorem dX8_has_6 : decode cX8_has 6 = .ok (.if_icmp .ne 7, 3) := by decide +kernel
theorem dX8_has_9 : decode cX8_has 9 = .ok (.iconst 1, 1) := by decide +kernel
theorem dX8_has_10 : decode cX8_has 10 = .ok (.goto 4, 3) := by decide +kernel
theorem dX8_has_13 : decode cX8_has 13 = .ok (.iconst 0, 1) := by decide +kernel
theorem dX8_has_14 : decode cX8_has 14 = .ok (.ireturn, 1) := by decide +kernel
set_option maxRecDepth 20000 in
theorem ggX8_isHour_X8_in : GoodIn wsX8_isHour wsX8_in := goodIn_r _ [4] (by decide +kernel) (by decide +kernel)
set_option maxRecDepth 20000 in
theorem gX8_isHour_X8_in : GoodIn wsX8_isHour (va_wsS RX8 69 yX8_in wsX8_in) := goodIn_app (goodIn_of _ (by decide +kernel)) ggX8_isHour_X8_in
theorem dX8_isHour_0 : decode cX8_isHour 0 = .ok (.iload_n 0, 1) := by decide +kernel
theorem dX8_isHour_1 : decode cX8_isHour 1 = .ok (.iconst 0, 1) := by decide +kernel
theorem dX8_isHour_2 : decode cX8_isHour 2 = .ok (.bipush 23, 2) := by decide +kernel
theorem dX8_isHour_4 : decode cX8_isHour 4 = .ok (.invokestatic 69, 3) := by decide +kernel
theorem dX8_isHour_7 : decode cX8_isHour 7 = .ok (.ireturn, 1) := by decide +kernel
set_option maxRecDepth 20000 in
theorem ggX8_isMember_X8_in : GoodIn wsX8_isMember wsX8_in := goodIn_r _ [5] (by decide +kernel) (by decide +kernel)
set_option maxRecDepth 20000 in
theorem gX8_isMember_X8_in : GoodIn wsX8_isMember (va_wsS RX8 69 yX8_in wsX8_in) := goodIn_app (goodIn_of _ (by decide +kernel)) ggX8_isMember_X8_in
theorem dX8_isMember_0 : decode cX8_isMember 0 = .ok (.iload_n 1, 1) := by decide +kernel
theorem dX8_isMember_1 : decode cX8_isMember 1 = .ok (.iconst 0, 1) := by decide +kernel
theorem dX8_isMember_2 : decode cX8_isMember 2 = .ok (.aload_n 0, 1) := by decide +kernel
theorem dX8_isMember_3 : decode cX8_isMember 3 = .ok (.getfield 7, 3) := by decide +kernel
theorem dX8_isMember_6 : decode cX8_isMember 6 = .ok (.iconst 1, 1) := by decide +kernel
theorem dX8_isMember_7 : decode cX8_isMember 7 = .ok (.isub, 1) := by decide +kernel
theorem dX8_isMember_8 : decode cX8_isMember 8 = .ok (.invokestatic 69, 3) := by decide +kernel
theorem dX8_isMember_11 : decode cX8_isMember 11 = .ok (.ireturn, 1) := by decide +kernel
set_option maxRecDepth 20000 in
theorem ggX8_members_X8_in : GoodIn wsX8_members wsX8_in := goodIn_r _ [5] (by decide +kernel) (by decide +kernel)
set_option maxRecDepth 20000 in
theorem gX8_members_X8_in : GoodIn wsX8_members (va_wsS RX8 69 yX8_in wsX8_in) := goodIn_app (goodIn_of _ (by decide +kernel)) ggX8_members_X8_in
set_option maxRecDepth 20000 in
theorem ggX8_members_X8_plain : GoodIn wsX8_members wsX8_plain := goodIn_r _ [9, 10, 11, 12, 13, 14, 15, 16, 17, 18, 19, 20, 21, 22, 23, 24, 25, 26, 27, 28, 29, 30, 31, 32, 33, 34, 35, 36] (by decide +kernel) (by decide +kernel)
set_option maxRecDepth 20000 in
theorem gX8_members_X8_plain : GoodIn wsX8_members (wsV RX8 63 RX8 yX8_plain wsX8_plain) := goodIn_app (goodIn_of _ (by decide +kernel)) ggX8_members_X8_plain
theorem dX8_members_0 : decode cX8_members 0 = .ok (.iload_n 1, 1) := by decide +kernel
theorem dX8_members_1 : decode cX8_members 1 = .ok (.iconst 1, 1) := by decide +kernel
theorem dX8_members_2 : decode cX8_members 2 = .ok (.bipush 6, 2) := by decide +kernel
theorem dX8_members_4 : decode cX8_members 4 = .ok (.invokestatic 69, 3) := by decide +kernel
theorem dX8_members_7 : decode cX8_members 7 = .ok (.ifCond .ne 6, 3) := by decide +kernel
theorem dX8_members_10 : decode cX8_members 10 = .ok (.bipush (-2), 2) := by decide +kernel
theorem dX8_members_12 : decode cX8_members 12 = .ok (.ireturn, 1) := by decide +kernel
theorem dX8_members_13 : decode cX8_members 13 = .ok (.aload_n 0, 1) := by decide +kernel
theorem dX8_members_14 : decode cX8_members 14 = .ok (.getfield 7, 3) := by decide +kernel
theorem dX8_members_17 : decode cX8_members 17 = .ok (.istore_n 2, 1) := by decide +kernel
theorem dX8_members_18 : decode cX8_members 18 = .ok (.aload_n 0, 1) := by decide +kernel
theorem dX8_members_19 : decode cX8_members 19 = .ok (.iload_n 1, 1) := by decide +kernel
theorem dX8_members_20 : decode cX8_members 20 = .ok (.putfield 7, 3) := by decide +kernel
theorem dX8_members_23 : decode cX8_members 23 = .ok (.aload_n 0, 1) := by decide +kernel
theorem dX8_members_24 : decode cX8_members 24 = .ok (.invokevirtual 63, 3) := by decide +kernel
theorem dX8_members_27 : decode cX8_members 27 = .ok (.iload_n 2, 1) := by decide +kernel
theorem dX8_members_28 : decode cX8_members 28 = .ok (.ireturn, 1) := by decide +kernel
set_option maxRecDepth 20000 in
theorem ggX8_member_X8_isMember : GoodIn wsX8_member wsX8_isMember := goodIn_r _ [8, 9, 10, 11, 7, 12, 13, 14, 15, 16, 17, 18, 19, 20, 21, 22, 23, 24, 25, 26, 27, 28, 29, 30, 31, 32, 33, 34, 35] (by decide +kernel) (by decide +kernel)
set_option maxRecDepth 20000 in
theorem gX8_member_X8_isMember : GoodIn wsX8_member (wsV RX8 73 RX8 yX8_isMember wsX8_isMember) := goodIn_app (goodIn_of _ (by decide +kernel)) ggX8_member_X8_isMember
set_option maxRecDepth 20000 in
theorem ggX8_member_X8_in : GoodIn wsX8_member wsX8_in := goodIn_r _ [12] (by decide +kernel) (by decide +kernel)
set_option maxRecDepth 20000 in
theorem gX8_member_X8_in : GoodIn wsX8_member (va_wsS RX8 69 yX8_in wsX8_in) := goodIn_app (goodIn_of _ (by decide +kernel)) ggX8_member_X8_in
theorem dX8_member_0 : decode cX8_member 0 = .ok (.aload_n 0, 1) := by decide +kernel
theorem dX8_member_1 : decode cX8_member 1 = .ok (.iload_n 1, 1) := by decide +kernel
theorem dX8_member_2 : decode cX8_member 2 = .ok (.invokevirtual 73, 3) := by decide +kernel
theorem dX8_member_5 : decode cX8_member 5 = .ok (.ifCond .ne 5, 3) := by decide +kernel
theorem dX8_member_8 : decode cX8_member 8 = .ok (.iconst (-1), 1) := by decide +kernel
theorem dX8_member_9 : decode cX8_member 9 = .ok (.ireturn, 1) := by decide +kernel
theorem dX8_member_10 : decode cX8_member 10 = .ok (.iload_n 2, 1) := by decide +kernel
theorem dX8_member_11 : decode cX8_member 11 = .ok (.iconst 0, 1) := by decide +kernel
theorem dX8_member_12 : decode cX8_member 12 = .ok (.iconst 2, 1) := by decide +kernel
theorem dX8_member_13 : decode cX8_member 13 = .ok (.invokestatic 69, 3) := by decide +kernel
theorem dX8_member_16 : decode cX8_member 16 = .ok (.ifCond .eq 22, 3) := by decide +kernel
theorem dX8_member_19 : decode cX8_member 19 = .ok (.iload_n 3, 1) := by decide +kernel
theorem dX8_member_20 : decode cX8_member 20 = .ok (.iconst 0, 1) := by decide +kernel
theorem dX8_member_21 : decode cX8_member 21 = .ok (.iload_n 2, 1) := by decide +kernel
theorem dX8_member_22 : decode cX8_member 22 = .ok (.iconst 1, 1) := by decide +kernel
theorem dX8_member_23 : decode cX8_member 23 = .ok (.if_icmp .ne 7, 3) := by decide +kernel
theorem dX8_member_26 : decode cX8_member 26 = .ok (.iconst 5, 1) := by decide +kernel
theorem dX8_member_27 : decode cX8_member 27 = .ok (.goto 5, 3) := by decide +kernel
theorem dX8_member_30 : decode cX8_member 30 = .ok (.bipush 23, 2) := by decide +kernel
theorem dX8_member_32 : decode cX8_member 32 = .ok (.invokestatic 69, 3) := by decide +kernel
theorem dX8_member_35 : decode cX8_member 35 = .ok (.ifCond .ne 6, 3) := by decide +kernel
theorem dX8_member_38 : decode cX8_member 38 = .ok (.bipush (-2), 2) := by decide +kernel
theorem dX8_member_40 : decode cX8_member 40 = .ok (.ireturn, 1) := by decide +kernel
theorem dX8_member_41 : decode cX8_member 41 = .ok (.iload_n 2, 1) := by decide +kernel
theorem dX8_member_42 : decode cX8_member 42 = .ok (.ifCond .ne 12, 3) := by decide +kernel
theorem dX8_member_45 : decode cX8_member 45 = .ok (.aload_n 0, 1) := by decide +kernel
theorem dX8_member_46 : decode cX8_member 46 = .ok (.getfield 13, 3) := by decide +kernel
theorem dX8_member_49 : decode cX8_member 49 = .ok (.iload_n 1, 1) := by decide +kernel
theorem dX8_member_50 : decode cX8_member 50 = .ok (.iaload, 1) := by decide +kernel
theorem dX8_member_51 : decode cX8_member 51 = .ok (.goto 23, 3) := by decide +kernel
theorem dX8_member_54 : decode cX8_member 54 = .ok (.iload_n 2, 1) := by decide +kernel
theorem dX8_member_55 : decode cX8_member 55 = .ok (.iconst 1, 1) := by decide +kernel
theorem dX8_member_56 : decode cX8_member 56 = .ok (.if_icmp .ne 12, 3) := by decide +kernel
theorem dX8_member_59 : decode cX8_member 59 = .ok (.aload_n 0, 1) := by decide +kernel
theorem dX8_member_60 : decode cX8_member 60 = .ok (.getfield 17, 3) := by decide +kernel
theorem dX8_member_63 : decode cX8_member 63 = .ok (.iload_n 1, 1) := by decide +kernel
theorem dX8_member_64 : decode cX8_member 64 = .ok (.iaload, 1) := by decide +kernel
theorem dX8_member_65 : decode cX8_member 65 = .ok (.goto 9, 3) := by decide +kernel
theorem dX8_member_68 : decode cX8_member 68 = .ok (.aload_n 0, 1) := by decide +kernel
theorem dX8_member_69 : decode cX8_member 69 = .ok (.getfield 20, 3) := by decide +kernel
theorem dX8_member_72 : decode cX8_member 72 = .ok (.iload_n 1, 1) := by decide +kernel
theorem dX8_member_73 : decode cX8_member 73 = .ok (.iaload, 1) := by decide +kernel
theorem dX8_member_74 : decode cX8_member 74 = .ok (.istore 4, 2) := by decide +kernel
theorem dX8_member_76 : decode cX8_member 76 = .ok (.aload_n 0, 1) := by decide +kernel
theorem dX8_member_77 : decode cX8_member 77 = .ok (.getfield 13, 3) := by decide +kernel
theorem dX8_member_80 : decode cX8_member 80 = .ok (.iload_n 1, 1) := by decide +kernel
theorem dX8_member_81 : decode cX8_member 81 = .ok (.iload_n 2, 1) := by decide +kernel
theorem dX8_member_82 : decode cX8_member 82 = .ok (.ifCond .ne 7, 3) := by decide +kernel
theorem dX8_member_85 : decode cX8_member 85 = .ok (.iload_n 3, 1) := by decide +kernel
theorem dX8_member_86 : decode cX8_member 86 = .ok (.goto 9, 3) := by decide +kernel
theorem dX8_member_89 : decode cX8_member 89 = .ok (.aload_n 0, 1) := by decide +kernel
theorem dX8_member_90 : decode cX8_member 90 = .ok (.getfield 13, 3) := by decide +kernel
theorem dX8_member_93 : decode cX8_member 93 = .ok (.iload_n 1, 1) := by decide +kernel
theorem dX8_member_94 : decode cX8_member 94 = .ok (.iaload, 1) := by decide +kernel
theorem dX8_member_95 : decode cX8_member 95 = .ok (.iastore, 1) := by decide +kernel
theorem dX8_member_96 : decode cX8_member 96 = .ok (.aload_n 0, 1) := by decide +kernel
theorem dX8_member_97 : decode cX8_member 97 = .ok (.getfield 17, 3) := by decide +kernel
theorem dX8_member_100 : decode cX8_member 100 = .ok (.iload_n 1, 1) := by decide +kernel
theorem dX8_member_101 : decode cX8_member 101 = .ok (.iload_n 2, 1) := by decide +kernel
theorem dX8_member_102 : decode cX8_member 102 = .ok (.iconst 1, 1) := by decide +kernel
theorem dX8_member_103 : decode cX8_member 103 = .ok (.if_icmp .ne 7, 3) := by decide +kernel
theorem dX8_member_106 : decode cX8_member 106 = .ok (.iload_n 3, 1) := by decide +kernel
theorem dX8_member_107 : decode cX8_member 107 = .ok (.goto 9, 3) := by decide +kernel
theorem dX8_member_110 : decode cX8_member 110 = .ok (.aload_n 0, 1) := by decide +kernel
theorem dX8_member_111 : decode cX8_member 111 = .ok (.getfield 17, 3) := by decide +kernel
theorem dX8_member_114 : decode cX8_member 114 = .ok (.iload_n 1, 1) := by decide +kernel
theorem dX8_member_115 : decode cX8_member 115 = .ok (.iaload, 1) := by decide +kernel
theorem dX8_member_116 : decode cX8_member 116 = .ok (.iastore, 1) := by decide +kernel
theorem dX8_member_117 : decode cX8_member 117 = .ok (.aload_n 0, 1) := by decide +kernel
theorem dX8_member_118 : decode cX8_member 118 = .ok (.getfield 20, 3) := by decide +kernel
theorem dX8_member_121 : decode cX8_member 121 = .ok (.iload_n 1, 1) := by decide +kernel
theorem dX8_member_122 : decode cX8_member 122 = .ok (.iload_n 2, 1) := by decide +kernel
theorem dX8_member_123 : decode cX8_member 123 = .ok (.iconst 2, 1) := by decide +kernel
theorem dX8_member_124 : decode cX8_member 124 = .ok (.if_icmp .ne 7, 3) := by decide +kernel
theorem dX8_member_127 : decode cX8_member 127 = .ok (.iload_n 3, 1) := by decide +kernel
theorem dX8_member_128 : decode cX8_member 128 = .ok (.goto 9, 3) := by decide +kernel
theorem dX8_member_131 : decode cX8_member 131 = .ok (.aload_n 0, 1) := by decide +kernel
theorem dX8_member_132 : decode cX8_member 132 = .ok (.getfield 20, 3) := by decide +kernel
theorem dX8_member_135 : decode cX8_member 135 = .ok (.iload_n 1, 1) := by decide +kernel
theorem dX8_member_136 : decode cX8_member 136 = .ok (.iaload, 1) := by decide +kernel
theorem dX8_member_137 : decode cX8_member 137 = .ok (.iastore, 1) := by decide +kernel
theorem dX8_member_138 : decode cX8_member 138 = .ok (.iload 4, 2) := by decide +kernel
theorem dX8_member_140 : decode cX8_member 140 = .ok (.ireturn, 1) := by decide +kernel
set_option maxRecDepth 20000 in
theorem ggX8_fine_X8_in : GoodIn wsX8_fine wsX8_in := goodIn_r _ [5] (by decide +kernel) (by decide +kernel)
set_option maxRecDepth 20000 in
theorem gX8_fine_X8_in : GoodIn wsX8_fine (va_wsS RX8 69 yX8_in wsX8_in) := goodIn_app (goodIn_of _ (by decide +kernel)) ggX8_fine_X8_in
theorem dX8_fine_0 : decode cX8_fine 0 = .ok (.iload_n 1, 1) := by decide +kernel
theorem dX8_fine_1 : decode cX8_fine 1 = .ok (.iconst 0, 1) := by decide +kernel
theorem dX8_fine_2 : decode cX8_fine 2 = .ok (.bipush 9, 2) := by decide +kernel
theorem dX8_fine_4 : decode cX8_fine 4 = .ok (.invokestatic 69, 3) := by decide +kernel
theorem dX8_fine_7 : decode cX8_fine 7 = .ok (.ifCond .ne 6, 3) := by decide +kernel
theorem dX8_fine_10 : decode cX8_fine 10 = .ok (.bipush (-2), 2) := by decide +kernel
theorem dX8_fine_12 : decode cX8_fine 12 = .ok (.ireturn, 1) := by decide +kernel
theorem dX8_fine_13 : decode cX8_fine 13 = .ok (.aload_n 0, 1) := by decide +kernel
theorem dX8_fine_14 : decode cX8_fine 14 = .ok (.getfield 23, 3) := by decide +kernel
theorem dX8_fine_17 : decode cX8_fine 17 = .ok (.istore_n 2, 1) := by decide +kernel
theorem dX8_fine_18 : decode cX8_fine 18 = .ok (.aload_n 0, 1) := by decide +kernel
theorem dX8_fine_19 : decode cX8_fine 19 = .ok (.iload_n 1, 1) := by decide +kernel
theorem dX8_fine_20 : decode cX8_fine 20 = .ok (.putfield 23, 3) := by decide +kernel
theorem dX8_fine_23 : decode cX8_fine 23 = .ok (.iload_n 2, 1) := by decide +kernel
theorem dX8_fine_24 : decode cX8_fine 24 = .ok (.ireturn, 1) := by decide +kernel
set_option maxRecDepth 20000 in
theorem ggX8_say_X8_in : GoodIn wsX8_say wsX8_in := goodIn_r _ [6] (by decide +kernel) (by decide +kernel)
set_option maxRecDepth 20000 in
theorem gX8_say_X8_in : GoodIn wsX8_say (va_wsS RX8 69 yX8_in wsX8_in) := goodIn_app (goodIn_of _ (by decide +kernel)) ggX8_say_X8_in
theorem dX8_say_0 : decode cX8_say 0 = .ok (.iload_n 1, 1) := by decide +kernel
theorem dX8_say_1 : decode cX8_say 1 = .ok (.bipush 33, 2) := by decide +kernel
theorem dX8_say_3 : decode cX8_say 3 = .ok (.bipush 126, 2) := by decide +kernel
theorem dX8_say_5 : decode cX8_say 5 = .ok (.invokestatic 69, 3) := by decide +kernel
theorem dX8_say_8 : decode cX8_say 8 = .ok (.ifCond .ne 6, 3) := by decide +kernel
theorem dX8_say_11 : decode cX8_say 11 = .ok (.bipush (-2), 2) := by decide +kernel
theorem dX8_say_13 : decode cX8_say 13 = .ok (.ireturn, 1) := by decide +kernel
theorem dX8_say_14 : decode cX8_say 14 = .ok (.aload_n 0, 1) := by decide +kernel
theorem dX8_say_15 : decode cX8_say 15 = .ok (.getfield 77, 3) := by decide +kernel
theorem dX8_say_18 : decode cX8_say 18 = .ok (.bipush 48, 2) := by decide +kernel
theorem dX8_say_20 : decode cX8_say 20 = .ok (.if_icmp .ne 6, 3) := by decide +kernel
theorem dX8_say_23 : decode cX8_say 23 = .ok (.bipush (-4), 2) := by decide +kernel
theorem dX8_say_25 : decode cX8_say 25 = .ok (.ireturn, 1) := by decide +kernel
theorem dX8_say_26 : decode cX8_say 26 = .ok (.aload_n 0, 1) := by decide +kernel
theorem dX8_say_27 : decode cX8_say 27 = .ok (.getfield 35, 3) := by decide +kernel
theorem dX8_say_30 : decode cX8_say 30 = .ok (.aload_n 0, 1) := by decide +kernel
theorem dX8_say_31 : decode cX8_say 31 = .ok (.getfield 77, 3) := by decide +kernel
theorem dX8_say_34 : decode cX8_say 34 = .ok (.iload_n 1, 1) := by decide +kernel
theorem dX8_say_35 : decode cX8_say 35 = .ok (.iastore, 1) := by decide +kernel
theorem dX8_say_36 : decode cX8_say 36 = .ok (.aload_n 0, 1) := by decide +kernel
theorem dX8_say_37 : decode cX8_say 37 = .ok (.dup, 1) := by decide +kernel
theorem dX8_say_38 : decode cX8_say 38 = .ok (.getfield 77, 3) := by decide +kernel
theorem dX8_say_41 : decode cX8_say 41 = .ok (.iconst 1, 1) := by decide +kernel
theorem dX8_say_42 : decode cX8_say 42 = .ok (.iadd, 1) := by decide +kernel
theorem dX8_say_43 : decode cX8_say 43 = .ok (.putfield 77, 3) := by decide +kernel
theorem dX8_say_46 : decode cX8_say 46 = .ok (.aload_n 0, 1) := by decide +kernel
theorem dX8_say_47 : decode cX8_say 47 = .ok (.getfield 77, 3) := by decide +kernel
theorem dX8_say_50 : decode cX8_say 50 = .ok (.ireturn, 1) := by decide +kernel
theorem dX8_wipe_0 : decode cX8_wipe 0 = .ok (.aload_n 0, 1) := by decide +kernel
theorem dX8_wipe_1 : decode cX8_wipe 1 = .ok (.getfield 77, 3) := by decide +kernel
theorem dX8_wipe_4 : decode cX8_wipe 4 = .ok (.istore_n 1, 1) := by decide +kernel
theorem dX8_wipe_5 : decode cX8_wipe 5 = .ok (.aload_n 0, 1) := by decide +kernel
theorem dX8_wipe_6 : decode cX8_wipe 6 = .ok (.iconst 0, 1) := by decide +kernel
theorem dX8_wipe_7 : decode cX8_wipe 7 = .ok (.putfield 77, 3) := by decide +kernel
theorem dX8_wipe_10 : decode cX8_wipe 10 = .ok (.iload_n 1, 1) := by decide +kernel
theorem dX8_wipe_11 : decode cX8_wipe 11 = .ok (.ireturn, 1) := by decide +kernel
theorem dX8_isLeaf_0 : decode cX8_isLeaf 0 = .ok (.iload_n 0, 1) := by decide +kernel
theorem dX8_isLeaf_1 : decode cX8_isLeaf 1 = .ok (.bipush 108, 2) := by decide +kernel
theorem dX8_isLeaf_3 : decode cX8_isLeaf 3 = .ok (.if_icmp .eq 27, 3) := by decide +kernel
theorem dX8_isLeaf_6 : decode cX8_isLeaf 6 = .ok (.iload_n 0, 1) := by decide +kernel
theorem dX8_isLeaf_7 : decode cX8_isLeaf 7 = .ok (.bipush 102, 2) := by decide +kernel
theorem dX8_isLeaf_9 : decode cX8_isLeaf 9 = .ok (.if_icmp .eq 21, 3) := by decide +kernel
theorem dX8_isLeaf_12 : decode cX8_isLeaf 12 = .ok (.iload_n 0, 1) := by decide +kernel
theorem dX8_isLeaf_13 : decode cX8_isLeaf 13 = .ok (.bipush 109, 2) := by decide +kernel
theorem dX8_isLeaf_15 : decode cX8_isLeaf 15 = .ok (.if_icmp .eq 15, 3) := by decide +kernel
theorem dX8_isLeaf_18 : decode cX8_isLeaf 18 = .ok (.iload_n 0, 1) := by decide +kernel
theorem dX8_isLeaf_19 : decode cX8_isLeaf 19 = .ok (.bipush 112, 2) := by decide +kernel
theorem dX8_isLeaf_21 : decode cX8_isLeaf 21 = .ok (.if_icmp .eq 9, 3) := by decide +kernel
theorem dX8_isLeaf_24 : decode cX8_isLeaf 24 = .ok (.iload_n 0, 1) := by decide +kernel
theorem dX8_isLeaf_25 : decode cX8_isLeaf 25 = .ok (.bipush 104, 2) := by decide +kernel
theorem dX8_isLeaf_27 : decode cX8_isLeaf 27 = .ok (.if_icmp .ne 7, 3) := by decide +kernel
theorem dX8_isLeaf_30 : decode cX8_isLeaf 30 = .ok (.iconst 1, 1) := by decide +kernel
theorem dX8_isLeaf_31 : decode cX8_isLeaf 31 = .ok (.goto 4, 3) := by decide +kernel
theorem dX8_isLeaf_34 : decode cX8_isLeaf 34 = .ok (.iconst 0, 1) := by decide +kernel
theorem dX8_isLeaf_35 : decode cX8_isLeaf 35 = .ok (.ireturn, 1) := by decide +kernel
theorem dX8_isPair_0 : decode cX8_isPair 0 = .ok (.iload_n 0, 1) := by decide +kernel
theorem dX8_isPair_1 : decode cX8_isPair 1 = .ok (.bipush 60, 2) := by decide +kernel
theorem dX8_isPair_3 : decode cX8_isPair 3 = .ok (.if_icmp .eq 15, 3) := by decide +kernel
theorem dX8_isPair_6 : decode cX8_isPair 6 = .ok (.iload_n 0, 1) := by decide +kernel
theorem dX8_isPair_7 : decode cX8_isPair 7 = .ok (.bipush 62, 2) := by decide +kernel
theorem dX8_isPair_9 : decode cX8_isPair 9 = .ok (.if_icmp .eq 9, 3) := by decide +kernel
theorem dX8_isPair_12 : decode cX8_isPair 12 = .ok (.iload_n 0, 1) := by decide +kernel
theorem dX8_isPair_13 : decode cX8_isPair 13 = .ok (.bipush 47, 2) := by decide +kernel
theorem dX8_isPair_15 : decode cX8_isPair 15 = .ok (.if_icmp .ne 7, 3) := by decide +kernel
theorem dX8_isPair_18 : decode cX8_isPair 18 = .ok (.iconst 1, 1) := by decide +kernel
theorem dX8_isPair_19 : decode cX8_isPair 19 = .ok (.goto 4, 3) := by decide +kernel
theorem dX8_isPair_22 : decode cX8_isPair 22 = .ok (.iconst 0, 1) := by decide +kernel
theorem dX8_isPair_23 : decode cX8_isPair 23 = .ok (.ireturn, 1) := by decide +kernel
theorem dX8_isShift_0 : decode cX8_isShift 0 = .ok (.iload_n 0, 1) := by decide +kernel
theorem dX8_isShift_1 : decode cX8_isShift 1 = .ok (.bipush 45, 2) := by decide +kernel
theorem dX8_isShift_3 : decode cX8_isShift 3 = .ok (.if_icmp .eq 9, 3) := by decide +kernel
theorem dX8_isShift_6 : decode cX8_isShift 6 = .ok (.iload_n 0, 1) := by decide +kernel
theorem dX8_isShift_7 : decode cX8_isShift 7 = .ok (.bipush 43, 2) := by decide +kernel
theorem dX8_isShift_9 : decode cX8_isShift 9 = .ok (.if_icmp .ne 7, 3) := by decide +kernel
theorem dX8_isShift_12 : decode cX8_isShift 12 = .ok (.iconst 1, 1) := by decide +kernel
theorem dX8_isShift_13 : decode cX8_isShift 13 = .ok (.goto 4, 3) := by decide +kernel
theorem dX8_isShift_16 : decode cX8_isShift 16 = .ok (.iconst 0, 1) := by decide +kernel
theorem dX8_isShift_17 : decode cX8_isShift 17 = .ok (.ireturn, 1) := by decide +kernel
set_option maxRecDepth 20000 in
theorem ggX8_faultOf_X8_in : GoodIn wsX8_faultOf wsX8_in := goodIn_r _ [6] (by decide +kernel) (by decide +kernel)
set_option maxRecDepth 20000 in
theorem gX8_faultOf_X8_in : GoodIn wsX8_faultOf (va_wsS RX8 69 yX8_in wsX8_in) := goodIn_app (goodIn_of _ (by decide +kernel)) ggX8_faultOf_X8_in
set_option maxRecDepth 20000 in
theorem ggX8_faultOf_X8_isLeaf : GoodIn wsX8_faultOf wsX8_isLeaf := goodIn_r _ [9] (by decide +kernel) (by decide +kernel)
set_option maxRecDepth 20000 in
theorem gX8_faultOf_X8_isLeaf : GoodIn wsX8_faultOf (va_wsS RX8 80 yX8_isLeaf wsX8_isLeaf) := goodIn_app (goodIn_of _ (by decide +kernel)) ggX8_faultOf_X8_isLeaf
set_option maxRecDepth 20000 in
theorem ggX8_faultOf_X8_isPair : GoodIn wsX8_faultOf wsX8_isPair := goodIn_r _ [12] (by decide +kernel) (by decide +kernel)
set_option maxRecDepth 20000 in
theorem gX8_faultOf_X8_isPair : GoodIn wsX8_faultOf (va_wsS RX8 83 yX8_isPair wsX8_isPair) := goodIn_app (goodIn_of _ (by decide +kernel)) ggX8_faultOf_X8_isPair
set_option maxRecDepth 20000 in
theorem ggX8_faultOf_X8_isShift : GoodIn wsX8_faultOf wsX8_isShift := goodIn_r _ [15] (by decide +kernel) (by decide +kernel)
set_option maxRecDepth 20000 in
theorem gX8_faultOf_X8_isShift : GoodIn wsX8_faultOf (va_wsS RX8 86 yX8_isShift wsX8_isShift) := goodIn_app (goodIn_of _ (by decide +kernel)) ggX8_faultOf_X8_isShift
theorem dX8_faultOf_0 : decode cX8_faultOf 0 = .ok (.iconst 1, 1) := by decide +kernel
theorem dX8_faultOf_1 : decode cX8_faultOf 1 = .ok (.istore_n 1, 1) := by decide +kernel
theorem dX8_faultOf_2 : decode cX8_faultOf 2 = .ok (.iconst 0, 1) := by decide +kernel
theorem dX8_faultOf_3 : decode cX8_faultOf 3 = .ok (.istore_n 2, 1) := by decide +kernel
theorem dX8_faultOf_4 : decode cX8_faultOf 4 = .ok (.iconst 0, 1) := by decide +kernel
theorem dX8_faultOf_5 : decode cX8_faultOf 5 = .ok (.istore_n 3, 1) := by decide +kernel
theorem dX8_faultOf_6 : decode cX8_faultOf 6 = .ok (.iload_n 3, 1) := by decide +kernel
theorem dX8_faultOf_7 : decode cX8_faultOf 7 = .ok (.aload_n 0, 1) := by decide +kernel
theorem dX8_faultOf_8 : decode cX8_faultOf 8 = .ok (.getfield 77, 3) := by decide +kernel
theorem dX8_faultOf_11 : decode cX8_faultOf 11 = .ok (.if_icmp .ge 142, 3) := by decide +kernel
theorem dX8_faultOf_14 : decode cX8_faultOf 14 = .ok (.aload_n 0, 1) := by decide +kernel
theorem dX8_faultOf_15 : decode cX8_faultOf 15 = .ok (.getfield 35, 3) := by decide +kernel
theorem dX8_faultOf_18 : decode cX8_faultOf 18 = .ok (.iload_n 3, 1) := by decide +kernel
theorem dX8_faultOf_19 : decode cX8_faultOf 19 = .ok (.iaload, 1) := by decide +kernel
theorem dX8_faultOf_20 : decode cX8_faultOf 20 = .ok (.istore 4, 2) := by decide +kernel
theorem dX8_faultOf_22 : decode cX8_faultOf 22 = .ok (.iload_n 2, 1) := by decide +kernel
theorem dX8_faultOf_23 : decode cX8_faultOf 23 = .ok (.ifCond .eq 15, 3) := by decide +kernel
theorem dX8_faultOf_26 : decode cX8_faultOf 26 = .ok (.iload 4, 2) := by decide +kernel
theorem dX8_faultOf_28 : decode cX8_faultOf 28 = .ok (.bipush 48, 2) := by decide +kernel
theorem dX8_faultOf_30 : decode cX8_faultOf 30 = .ok (.bipush 57, 2) := by decide +kernel
theorem dX8_faultOf_32 : decode cX8_faultOf 32 = .ok (.invokestatic 69, 3) := by decide +kernel
theorem dX8_faultOf_35 : decode cX8_faultOf 35 = .ok (.goto 43, 3) := by decide +kernel
theorem dX8_faultOf_38 : decode cX8_faultOf 38 = .ok (.iload_n 1, 1) := by decide +kernel
theorem dX8_faultOf_39 : decode cX8_faultOf 39 = .ok (.ifCond .le 38, 3) := by decide +kernel
theorem dX8_faultOf_42 : decode cX8_faultOf 42 = .ok (.iload 4, 2) := by decide +kernel
theorem dX8_faultOf_44 : decode cX8_faultOf 44 = .ok (.invokestatic 80, 3) := by decide +kernel
theorem dX8_faultOf_47 : decode cX8_faultOf 47 = .ok (.ifCond .ne 26, 3) := by decide +kernel
theorem dX8_faultOf_50 : decode cX8_faultOf 50 = .ok (.iload 4, 2) := by decide +kernel
theorem dX8_faultOf_52 : decode cX8_faultOf 52 = .ok (.invokestatic 83, 3) := by decide +kernel
theorem dX8_faultOf_55 : decode cX8_faultOf 55 = .ok (.ifCond .ne 18, 3) := by decide +kernel
theorem dX8_faultOf_58 : decode cX8_faultOf 58 = .ok (.iload 4, 2) := by decide +kernel
theorem dX8_faultOf_60 : decode cX8_faultOf 60 = .ok (.invokestatic 86, 3) := by decide +kernel
theorem dX8_faultOf_63 : decode cX8_faultOf 63 = .ok (.ifCond .ne 10, 3) := by decide +kernel
theorem dX8_faultOf_66 : decode cX8_faultOf 66 = .ok (.iload 4, 2) := by decide +kernel
theorem dX8_faultOf_68 : decode cX8_faultOf 68 = .ok (.bipush 126, 2) := by decide +kernel
theorem dX8_faultOf_70 : decode cX8_faultOf 70 = .ok (.if_icmp .ne 7, 3) := by decide +kernel
theorem dX8_faultOf_73 : decode cX8_faultOf 73 = .ok (.iconst 1, 1) := by decide +kernel
theorem dX8_faultOf_74 : decode cX8_faultOf 74 = .ok (.goto 4, 3) := by decide +kernel
theorem dX8_faultOf_77 : decode cX8_faultOf 77 = .ok (.iconst 0, 1) := by decide +kernel
theorem dX8_faultOf_78 : decode cX8_faultOf 78 = .ok (.istore 5, 2) := by decide +kernel
theorem dX8_faultOf_80 : decode cX8_faultOf 80 = .ok (.iload 5, 2) := by decide +kernel
theorem dX8_faultOf_82 : decode cX8_faultOf 82 = .ok (.ifCond .eq 9, 3) := by decide +kernel
theorem dX8_faultOf_85 : decode cX8_faultOf 85 = .ok (.iload_n 3, 1) := by decide +kernel
theorem dX8_faultOf_86 : decode cX8_faultOf 86 = .ok (.bipush 20, 2) := by decide +kernel
theorem dX8_faultOf_88 : decode cX8_faultOf 88 = .ok (.if_icmp .ne 5, 3) := by decide +kernel
theorem dX8_faultOf_91 : decode cX8_faultOf 91 = .ok (.iload_n 3, 1) := by decide +kernel
theorem dX8_faultOf_92 : decode cX8_faultOf 92 = .ok (.ireturn, 1) := by decide +kernel
theorem dX8_faultOf_93 : decode cX8_faultOf 93 = .ok (.iload_n 1, 1) := by decide +kernel
theorem dX8_faultOf_94 : decode cX8_faultOf 94 = .ok (.iload_n 2, 1) := by decide +kernel
theorem dX8_faultOf_95 : decode cX8_faultOf 95 = .ok (.ifCond .eq 7, 3) := by decide +kernel
theorem dX8_faultOf_98 : decode cX8_faultOf 98 = .ok (.iconst 0, 1) := by decide +kernel
theorem dX8_faultOf_99 : decode cX8_faultOf 99 = .ok (.goto 28, 3) := by decide +kernel
theorem dX8_faultOf_102 : decode cX8_faultOf 102 = .ok (.iload 4, 2) := by decide +kernel
theorem dX8_faultOf_104 : decode cX8_faultOf 104 = .ok (.invokestatic 80, 3) := by decide +kernel
theorem dX8_faultOf_107 : decode cX8_faultOf 107 = .ok (.ifCond .eq 7, 3) := by decide +kernel
theorem dX8_faultOf_110 : decode cX8_faultOf 110 = .ok (.iconst (-1), 1) := by decide +kernel
theorem dX8_faultOf_111 : decode cX8_faultOf 111 = .ok (.goto 16, 3) := by decide +kernel
theorem dX8_faultOf_114 : decode cX8_faultOf 114 = .ok (.iload 4, 2) := by decide +kernel
theorem dX8_faultOf_116 : decode cX8_faultOf 116 = .ok (.invokestatic 83, 3) := by decide +kernel
theorem dX8_faultOf_119 : decode cX8_faultOf 119 = .ok (.ifCond .eq 7, 3) := by decide +kernel
theorem dX8_faultOf_122 : decode cX8_faultOf 122 = .ok (.iconst 1, 1) := by decide +kernel
theorem dX8_faultOf_123 : decode cX8_faultOf 123 = .ok (.goto 4, 3) := by decide +kernel
theorem dX8_faultOf_126 : decode cX8_faultOf 126 = .ok (.iconst 0, 1) := by decide +kernel
theorem dX8_faultOf_127 : decode cX8_faultOf 127 = .ok (.iadd, 1) := by decide +kernel
theorem dX8_faultOf_128 : decode cX8_faultOf 128 = .ok (.istore_n 1, 1) := by decide +kernel
theorem dX8_faultOf_129 : decode cX8_faultOf 129 = .ok (.iload_n 2, 1) := by decide +kernel
theorem dX8_faultOf_130 : decode cX8_faultOf 130 = .ok (.ifCond .ne 15, 3) := by decide +kernel
theorem dX8_faultOf_133 : decode cX8_faultOf 133 = .ok (.iload 4, 2) := by decide +kernel
theorem dX8_faultOf_135 : decode cX8_faultOf 135 = .ok (.invokestatic 86, 3) := by decide +kernel
theorem dX8_faultOf_138 : decode cX8_faultOf 138 = .ok (.ifCond .eq 7, 3) := by decide +kernel
theorem dX8_faultOf_141 : decode cX8_faultOf 141 = .ok (.iconst 1, 1) := by decide +kernel
theorem dX8_faultOf_142 : decode cX8_faultOf 142 = .ok (.goto 4, 3) := by decide +kernel
theorem dX8_faultOf_145 : decode cX8_faultOf 145 = .ok (.iconst 0, 1) := by decide +kernel
theorem dX8_faultOf_146 : decode cX8_faultOf 146 = .ok (.istore_n 2, 1) := by decide +kernel
theorem dX8_faultOf_147 : decode cX8_faultOf 147 = .ok (.iinc 3 1, 3) := by decide +kernel
theorem dX8_faultOf_150 : decode cX8_faultOf 150 = .ok (.goto (-144), 3) := by decide +kernel
theorem dX8_faultOf_153 : decode cX8_faultOf 153 = .ok (.iload_n 1, 1) := by decide +kernel
theorem dX8_faultOf_154 : decode cX8_faultOf 154 = .ok (.ifCond .ne 12, 3) := by decide +kernel
theorem dX8_faultOf_157 : decode cX8_faultOf 157 = .ok (.iload_n 2, 1) := by decide +kernel
theorem dX8_faultOf_158 : decode cX8_faultOf 158 = .ok (.ifCond .ne 8, 3) := by decide +kernel
theorem dX8_faultOf_161 : decode cX8_faultOf 161 = .ok (.bipush (-6), 2) := by decide +kernel
theorem dX8_faultOf_163 : decode cX8_faultOf 163 = .ok (.goto 7, 3) := by decide +kernel
theorem dX8_faultOf_166 : decode cX8_faultOf 166 = .ok (.aload_n 0, 1) := by decide +kernel
theorem dX8_faultOf_167 : decode cX8_faultOf 167 = .ok (.getfield 77, 3) := by decide +kernel
theorem dX8_faultOf_170 : decode cX8_faultOf 170 = .ok (.ireturn, 1) := by decide +kernel
set_option maxRecDepth 20000 in
theorem ggX8_fault_X8_faultOf : GoodIn wsX8_fault wsX8_faultOf := goodIn_r _ [5, 6, 7, 8, 9, 4, 10, 11, 12, 13, 14, 15, 16, 17, 18, 19, 20, 21, 22, 23, 24, 25, 26, 27, 28, 29, 30, 31, 32, 33, 34, 35, 36, 37, 38, 39, 40, 41, 42] (by decide +kernel) (by decide +kernel)
set_option maxRecDepth 20000 in
theorem gX8_fault_X8_faultOf : GoodIn wsX8_fault (wsV RX8 89 RX8 yX8_faultOf wsX8_faultOf) := goodIn_app (goodIn_of _ (by decide +kernel)) ggX8_fault_X8_faultOf
theorem dX8_fault_0 : decode cX8_fault 0 = .ok (.aload_n 0, 1) := by decide +kernel
theorem dX8_fault_1 : decode cX8_fault 1 = .ok (.invokevirtual 89, 3) := by decide +kernel
theorem dX8_fault_4 : decode cX8_fault 4 = .ok (.ireturn, 1) := by decide +kernel
set_option maxRecDepth 20000 in
theorem ggX8_enact_X8_faultOf : GoodIn wsX8_enact wsX8_faultOf := goodIn_r _ [9, 1, 4, 10, 11, 8, 12, 13, 14, 15, 16, 17, 18, 19, 20, 21, 22, 23, 24, 25, 26, 27, 28, 29, 30, 31, 32, 33, 34, 35, 36, 37, 38, 39, 40, 41, 42, 43, 44] (by decide +kernel) (by decide +kernel)
set_option maxRecDepth 20000 in
theorem gX8_enact_X8_faultOf : GoodIn wsX8_enact (wsV RX8 89 RX8 yX8_faultOf wsX8_faultOf) := goodIn_app (goodIn_of _ (by decide +kernel)) ggX8_enact_X8_faultOf
theorem dX8_enact_0 : decode cX8_enact 0 = .ok (.aload_n 0, 1) := by decide +kernel
theorem dX8_enact_1 : decode cX8_enact 1 = .ok (.invokevirtual 89, 3) := by decide +kernel
theorem dX8_enact_4 : decode cX8_enact 4 = .ok (.ifCond .lt 6, 3) := by decide +kernel
theorem dX8_enact_7 : decode cX8_enact 7 = .ok (.bipush (-5), 2) := by decide +kernel
theorem dX8_enact_9 : decode cX8_enact 9 = .ok (.ireturn, 1) := by decide +kernel
theorem dX8_enact_10 : decode cX8_enact 10 = .ok (.aload_n 0, 1) := by decide +kernel
theorem dX8_enact_11 : decode cX8_enact 11 = .ok (.aload_n 0, 1) := by decide +kernel
theorem dX8_enact_12 : decode cX8_enact 12 = .ok (.getfield 77, 3) := by decide +kernel
theorem dX8_enact_15 : decode cX8_enact 15 = .ok (.putfield 26, 3) := by decide +kernel
theorem dX8_enact_18 : decode cX8_enact 18 = .ok (.iconst 0, 1) := by decide +kernel
theorem dX8_enact_19 : decode cX8_enact 19 = .ok (.istore_n 1, 1) := by decide +kernel
theorem dX8_enact_20 : decode cX8_enact 20 = .ok (.iload_n 1, 1) := by decide +kernel
theorem dX8_enact_21 : decode cX8_enact 21 = .ok (.aload_n 0, 1) := by decide +kernel
theorem dX8_enact_22 : decode cX8_enact 22 = .ok (.getfield 77, 3) := by decide +kernel
theorem dX8_enact_25 : decode cX8_enact 25 = .ok (.if_icmp .ge 21, 3) := by decide +kernel
theorem dX8_enact_28 : decode cX8_enact 28 = .ok (.aload_n 0, 1) := by decide +kernel
theorem dX8_enact_29 : decode cX8_enact 29 = .ok (.getfield 29, 3) := by decide +kernel
theorem dX8_enact_32 : decode cX8_enact 32 = .ok (.iload_n 1, 1) := by decide +kernel
theorem dX8_enact_33 : decode cX8_enact 33 = .ok (.aload_n 0, 1) := by decide +kernel
theorem dX8_enact_34 : decode cX8_enact 34 = .ok (.getfield 35, 3) := by decide +kernel
theorem dX8_enact_37 : decode cX8_enact 37 = .ok (.iload_n 1, 1) := by decide +kernel
theorem dX8_enact_38 : decode cX8_enact 38 = .ok (.iaload, 1) := by decide +kernel
theorem dX8_enact_39 : decode cX8_enact 39 = .ok (.iastore, 1) := by decide +kernel
theorem dX8_enact_40 : decode cX8_enact 40 = .ok (.iinc 1 1, 3) := by decide +kernel
theorem dX8_enact_43 : decode cX8_enact 43 = .ok (.goto (-23), 3) := by decide +kernel
theorem dX8_enact_46 : decode cX8_enact 46 = .ok (.aload_n 0, 1) := by decide +kernel
theorem dX8_enact_47 : decode cX8_enact 47 = .ok (.iconst 0, 1) := by decide +kernel
theorem dX8_enact_48 : decode cX8_enact 48 = .ok (.putfield 77, 3) := by decide +kernel
theorem dX8_enact_51 : decode cX8_enact 51 = .ok (.aload_n 0, 1) := by decide +kernel
theorem dX8_enact_52 : decode cX8_enact 52 = .ok (.getfield 26, 3) := by decide +kernel
theorem dX8_enact_55 : decode cX8_enact 55 = .ok (.ireturn, 1) := by decide +kernel
theorem dX8_comesAt_0 : decode cX8_comesAt 0 = .ok (.aload_n 0, 1) := by decide +kernel
theorem dX8_comesAt_1 : decode cX8_comesAt 1 = .ok (.getfield 13, 3) := by decide +kernel
theorem dX8_comesAt_4 : decode cX8_comesAt 4 = .ok (.iload_n 1, 1) := by decide +kernel
theorem dX8_comesAt_5 : decode cX8_comesAt 5 = .ok (.iaload, 1) := by decide +kernel
theorem dX8_comesAt_6 : decode cX8_comesAt 6 = .ok (.aload_n 0, 1) := by decide +kernel
theorem dX8_comesAt_7 : decode cX8_comesAt 7 = .ok (.getfield 93, 3) := by decide +kernel
theorem dX8_comesAt_10 : decode cX8_comesAt 10 = .ok (.iadd, 1) := by decide +kernel
theorem dX8_comesAt_11 : decode cX8_comesAt 11 = .ok (.bipush 23, 2) := by decide +kernel
theorem dX8_comesAt_13 : decode cX8_comesAt 13 = .ok (.if_icmp .le 8, 3) := by decide +kernel
theorem dX8_comesAt_16 : decode cX8_comesAt 16 = .ok (.bipush 23, 2) := by decide +kernel
theorem dX8_comesAt_18 : decode cX8_comesAt 18 = .ok (.goto 14, 3) := by decide +kernel
theorem dX8_comesAt_21 : decode cX8_comesAt 21 = .ok (.aload_n 0, 1) := by decide +kernel
theorem dX8_comesAt_22 : decode cX8_comesAt 22 = .ok (.getfield 13, 3) := by decide +kernel
theorem dX8_comesAt_25 : decode cX8_comesAt 25 = .ok (.iload_n 1, 1) := by decide +kernel
theorem dX8_comesAt_26 : decode cX8_comesAt 26 = .ok (.iaload, 1) := by decide +kernel
theorem dX8_comesAt_27 : decode cX8_comesAt 27 = .ok (.aload_n 0, 1) := by decide +kernel
theorem dX8_comesAt_28 : decode cX8_comesAt 28 = .ok (.getfield 93, 3) := by decide +kernel
theorem dX8_comesAt_31 : decode cX8_comesAt 31 = .ok (.iadd, 1) := by decide +kernel
theorem dX8_comesAt_32 : decode cX8_comesAt 32 = .ok (.istore_n 3, 1) := by decide +kernel
theorem dX8_comesAt_33 : decode cX8_comesAt 33 = .ok (.iload_n 2, 1) := by decide +kernel
theorem dX8_comesAt_34 : decode cX8_comesAt 34 = .ok (.iload_n 3, 1) := by decide +kernel
theorem dX8_comesAt_35 : decode cX8_comesAt 35 = .ok (.if_icmp .le 7, 3) := by decide +kernel
theorem dX8_comesAt_38 : decode cX8_comesAt 38 = .ok (.iload_n 2, 1) := by decide +kernel
theorem dX8_comesAt_39 : decode cX8_comesAt 39 = .ok (.goto 4, 3) := by decide +kernel
theorem dX8_comesAt_42 : decode cX8_comesAt 42 = .ok (.iload_n 3, 1) := by decide +kernel
theorem dX8_comesAt_43 : decode cX8_comesAt 43 = .ok (.aload_n 0, 1) := by decide +kernel
theorem dX8_comesAt_44 : decode cX8_comesAt 44 = .ok (.getfield 38, 3) := by decide +kernel
theorem dX8_comesAt_47 : decode cX8_comesAt 47 = .ok (.iload_n 1, 1) := by decide +kernel
theorem dX8_comesAt_48 : decode cX8_comesAt 48 = .ok (.iaload, 1) := by decide +kernel
theorem dX8_comesAt_49 : decode cX8_comesAt 49 = .ok (.iadd, 1) := by decide +kernel
theorem dX8_comesAt_50 : decode cX8_comesAt 50 = .ok (.istore 4, 2) := by decide +kernel
theorem dX8_comesAt_52 : decode cX8_comesAt 52 = .ok (.iload 4, 2) := by decide +kernel
theorem dX8_comesAt_54 : decode cX8_comesAt 54 = .ok (.bipush 23, 2) := by decide +kernel
theorem dX8_comesAt_56 : decode cX8_comesAt 56 = .ok (.if_icmp .le 8, 3) := by decide +kernel
theorem dX8_comesAt_59 : decode cX8_comesAt 59 = .ok (.bipush 23, 2) := by decide +kernel
theorem dX8_comesAt_61 : decode cX8_comesAt 61 = .ok (.goto 5, 3) := by decide +kernel
theorem dX8_comesAt_64 : decode cX8_comesAt 64 = .ok (.iload 4, 2) := by decide +kernel
theorem dX8_comesAt_66 : decode cX8_comesAt 66 = .ok (.ireturn, 1) := by decide +kernel
set_option maxRecDepth 20000 in
theorem ggX8_layCame_X8_comesAt : GoodIn wsX8_layCame wsX8_comesAt := goodIn_r _ [7, 8, 9, 10, 11, 12, 13, 14, 15, 16, 17, 18, 19, 20, 21, 22, 23, 24, 25, 26, 27, 28, 29, 30, 31, 32, 33] (by decide +kernel) (by decide +kernel)
set_option maxRecDepth 20000 in
theorem gX8_layCame_X8_comesAt : GoodIn wsX8_layCame (wsV RX8 96 RX8 yX8_comesAt wsX8_comesAt) := goodIn_app (goodIn_of _ (by decide +kernel)) ggX8_layCame_X8_comesAt
theorem dX8_layCame_0 : decode cX8_layCame 0 = .ok (.iconst 0, 1) := by decide +kernel
theorem dX8_layCame_1 : decode cX8_layCame 1 = .ok (.istore_n 2, 1) := by decide +kernel
theorem dX8_layCame_2 : decode cX8_layCame 2 = .ok (.iload_n 2, 1) := by decide +kernel
theorem dX8_layCame_3 : decode cX8_layCame 3 = .ok (.aload_n 0, 1) := by decide +kernel
theorem dX8_layCame_4 : decode cX8_layCame 4 = .ok (.getfield 7, 3) := by decide +kernel
theorem dX8_layCame_7 : decode cX8_layCame 7 = .ok (.if_icmp .ge 67, 3) := by decide +kernel
theorem dX8_layCame_10 : decode cX8_layCame 10 = .ok (.aload_n 0, 1) := by decide +kernel
theorem dX8_layCame_11 : decode cX8_layCame 11 = .ok (.iload_n 2, 1) := by decide +kernel
theorem dX8_layCame_12 : decode cX8_layCame 12 = .ok (.iload_n 1, 1) := by decide +kernel
theorem dX8_layCame_13 : decode cX8_layCame 13 = .ok (.invokevirtual 96, 3) := by decide +kernel
theorem dX8_layCame_16 : decode cX8_layCame 16 = .ok (.istore_n 3, 1) := by decide +kernel
theorem dX8_layCame_17 : decode cX8_layCame 17 = .ok (.iload_n 2, 1) := by decide +kernel
theorem dX8_layCame_18 : decode cX8_layCame 18 = .ok (.istore 4, 2) := by decide +kernel
theorem dX8_layCame_20 : decode cX8_layCame 20 = .ok (.iload 4, 2) := by decide +kernel
theorem dX8_layCame_22 : decode cX8_layCame 22 = .ok (.ifCond .le 38, 3) := by decide +kernel
theorem dX8_layCame_25 : decode cX8_layCame 25 = .ok (.aload_n 0, 1) := by decide +kernel
theorem dX8_layCame_26 : decode cX8_layCame 26 = .ok (.getfield 41, 3) := by decide +kernel
theorem dX8_layCame_29 : decode cX8_layCame 29 = .ok (.iload 4, 2) := by decide +kernel
theorem dX8_layCame_31 : decode cX8_layCame 31 = .ok (.iconst 1, 1) := by decide +kernel
theorem dX8_layCame_32 : decode cX8_layCame 32 = .ok (.isub, 1) := by decide +kernel
theorem dX8_layCame_33 : decode cX8_layCame 33 = .ok (.iaload, 1) := by decide +kernel
theorem dX8_layCame_34 : decode cX8_layCame 34 = .ok (.iload_n 3, 1) := by decide +kernel
theorem dX8_layCame_35 : decode cX8_layCame 35 = .ok (.if_icmp .le 25, 3) := by decide +kernel
theorem dX8_layCame_38 : decode cX8_layCame 38 = .ok (.aload_n 0, 1) := by decide +kernel
theorem dX8_layCame_39 : decode cX8_layCame 39 = .ok (.getfield 41, 3) := by decide +kernel
theorem dX8_layCame_42 : decode cX8_layCame 42 = .ok (.iload 4, 2) := by decide +kernel
theorem dX8_layCame_44 : decode cX8_layCame 44 = .ok (.aload_n 0, 1) := by decide +kernel
theorem dX8_layCame_45 : decode cX8_layCame 45 = .ok (.getfield 41, 3) := by decide +kernel
theorem dX8_layCame_48 : decode cX8_layCame 48 = .ok (.iload 4, 2) := by decide +kernel
theorem dX8_layCame_50 : decode cX8_layCame 50 = .ok (.iconst 1, 1) := by decide +kernel
theorem dX8_layCame_51 : decode cX8_layCame 51 = .ok (.isub, 1) := by decide +kernel
theorem dX8_layCame_52 : decode cX8_layCame 52 = .ok (.iaload, 1) := by decide +kernel
theorem dX8_layCame_53 : decode cX8_layCame 53 = .ok (.iastore, 1) := by decide +kernel
theorem dX8_layCame_54 : decode cX8_layCame 54 = .ok (.iinc 4 (-1), 3) := by decide +kernel
theorem dX8_layCame_57 : decode cX8_layCame 57 = .ok (.goto (-37), 3) := by decide +kernel
theorem dX8_layCame_60 : decode cX8_layCame 60 = .ok (.aload_n 0, 1) := by decide +kernel
theorem dX8_layCame_61 : decode cX8_layCame 61 = .ok (.getfield 41, 3) := by decide +kernel
theorem dX8_layCame_64 : decode cX8_layCame 64 = .ok (.iload 4, 2) := by decide +kernel
theorem dX8_layCame_66 : decode cX8_layCame 66 = .ok (.iload_n 3, 1) := by decide +kernel
theorem dX8_layCame_67 : decode cX8_layCame 67 = .ok (.iastore, 1) := by decide +kernel
theorem dX8_layCame_68 : decode cX8_layCame 68 = .ok (.iinc 2 1, 3) := by decide +kernel
theorem dX8_layCame_71 : decode cX8_layCame 71 = .ok (.goto (-69), 3) := by decide +kernel
theorem dX8_layCame_74 : decode cX8_layCame 74 = .ok (.return_, 1) := by decide +kernel
theorem dX8_leafOf_0 : decode cX8_leafOf 0 = .ok (.iload_n 1, 1) := by decide +kernel
theorem dX8_leafOf_1 : decode cX8_leafOf 1 = .ok (.lookupswitch 100 #[(102, 55), (108, 43), (109, 62), (112, 76)], 43) := by decide +kernel
theorem dX8_leafOf_44 : decode cX8_leafOf 44 = .ok (.aload_n 0, 1) := by decide +kernel
theorem dX8_leafOf_45 : decode cX8_leafOf 45 = .ok (.getfield 41, 3) := by decide +kernel
theorem dX8_leafOf_48 : decode cX8_leafOf 48 = .ok (.aload_n 0, 1) := by decide +kernel
theorem dX8_leafOf_49 : decode cX8_leafOf 49 = .ok (.getfield 7, 3) := by decide +kernel
theorem dX8_leafOf_52 : decode cX8_leafOf 52 = .ok (.iconst 1, 1) := by decide +kernel
theorem dX8_leafOf_53 : decode cX8_leafOf 53 = .ok (.isub, 1) := by decide +kernel
theorem dX8_leafOf_54 : decode cX8_leafOf 54 = .ok (.iaload, 1) := by decide +kernel
theorem dX8_leafOf_55 : decode cX8_leafOf 55 = .ok (.ireturn, 1) := by decide +kernel
theorem dX8_leafOf_56 : decode cX8_leafOf 56 = .ok (.aload_n 0, 1) := by decide +kernel
theorem dX8_leafOf_57 : decode cX8_leafOf 57 = .ok (.getfield 41, 3) := by decide +kernel
theorem dX8_leafOf_60 : decode cX8_leafOf 60 = .ok (.iconst 0, 1) := by decide +kernel
theorem dX8_leafOf_61 : decode cX8_leafOf 61 = .ok (.iaload, 1) := by decide +kernel
theorem dX8_leafOf_62 : decode cX8_leafOf 62 = .ok (.ireturn, 1) := by decide +kernel
theorem dX8_leafOf_63 : decode cX8_leafOf 63 = .ok (.aload_n 0, 1) := by decide +kernel
theorem dX8_leafOf_64 : decode cX8_leafOf 64 = .ok (.getfield 41, 3) := by decide +kernel
theorem dX8_leafOf_67 : decode cX8_leafOf 67 = .ok (.aload_n 0, 1) := by decide +kernel
theorem dX8_leafOf_68 : decode cX8_leafOf 68 = .ok (.getfield 7, 3) := by decide +kernel
theorem dX8_leafOf_71 : decode cX8_leafOf 71 = .ok (.iconst 1, 1) := by decide +kernel
theorem dX8_leafOf_72 : decode cX8_leafOf 72 = .ok (.isub, 1) := by decide +kernel
theorem dX8_leafOf_73 : decode cX8_leafOf 73 = .ok (.iconst 2, 1) := by decide +kernel
theorem dX8_leafOf_74 : decode cX8_leafOf 74 = .ok (.idiv, 1) := by decide +kernel
theorem dX8_leafOf_75 : decode cX8_leafOf 75 = .ok (.iaload, 1) := by decide +kernel
theorem dX8_leafOf_76 : decode cX8_leafOf 76 = .ok (.ireturn, 1) := by decide +kernel
theorem dX8_leafOf_77 : decode cX8_leafOf 77 = .ok (.aload_n 0, 1) := by decide +kernel
theorem dX8_leafOf_78 : decode cX8_leafOf 78 = .ok (.getfield 41, 3) := by decide +kernel
theorem dX8_leafOf_81 : decode cX8_leafOf 81 = .ok (.aload_n 0, 1) := by decide +kernel
theorem dX8_leafOf_82 : decode cX8_leafOf 82 = .ok (.getfield 7, 3) := by decide +kernel
theorem dX8_leafOf_85 : decode cX8_leafOf 85 = .ok (.iconst 1, 1) := by decide +kernel
theorem dX8_leafOf_86 : decode cX8_leafOf 86 = .ok (.if_icmp .ne 7, 3) := by decide +kernel
theorem dX8_leafOf_89 : decode cX8_leafOf 89 = .ok (.iconst 0, 1) := by decide +kernel
theorem dX8_leafOf_90 : decode cX8_leafOf 90 = .ok (.goto 9, 3) := by decide +kernel
theorem dX8_leafOf_93 : decode cX8_leafOf 93 = .ok (.aload_n 0, 1) := by decide +kernel
theorem dX8_leafOf_94 : decode cX8_leafOf 94 = .ok (.getfield 7, 3) := by decide +kernel
theorem dX8_leafOf_97 : decode cX8_leafOf 97 = .ok (.iconst 2, 1) := by decide +kernel
theorem dX8_leafOf_98 : decode cX8_leafOf 98 = .ok (.isub, 1) := by decide +kernel
theorem dX8_leafOf_99 : decode cX8_leafOf 99 = .ok (.iaload, 1) := by decide +kernel
theorem dX8_leafOf_100 : decode cX8_leafOf 100 = .ok (.ireturn, 1) := by decide +kernel
theorem dX8_leafOf_101 : decode cX8_leafOf 101 = .ok (.iload_n 2, 1) := by decide +kernel
theorem dX8_leafOf_102 : decode cX8_leafOf 102 = .ok (.ireturn, 1) := by decide +kernel
theorem dX8_cut_0 : decode cX8_cut 0 = .ok (.iload_n 0, 1) := by decide +kernel
theorem dX8_cut_1 : decode cX8_cut 1 = .ok (.ifCond .ge 7, 3) := by decide +kernel
theorem dX8_cut_4 : decode cX8_cut 4 = .ok (.iconst 0, 1) := by decide +kernel
theorem dX8_cut_5 : decode cX8_cut 5 = .ok (.goto 15, 3) := by decide +kernel
theorem dX8_cut_8 : decode cX8_cut 8 = .ok (.iload_n 0, 1) := by decide +kernel
theorem dX8_cut_9 : decode cX8_cut 9 = .ok (.bipush 23, 2) := by decide +kernel
theorem dX8_cut_11 : decode cX8_cut 11 = .ok (.if_icmp .le 8, 3) := by decide +kernel
theorem dX8_cut_14 : decode cX8_cut 14 = .ok (.bipush 23, 2) := by decide +kernel
theorem dX8_cut_16 : decode cX8_cut 16 = .ok (.goto 4, 3) := by decide +kernel
theorem dX8_cut_19 : decode cX8_cut 19 = .ok (.iload_n 0, 1) := by decide +kernel
theorem dX8_cut_20 : decode cX8_cut 20 = .ok (.ireturn, 1) := by decide +kernel
set_option maxRecDepth 20000 in
theorem ggX8_nextOf_X8_layCame : GoodIn wsX8_nextOf wsX8_layCame := goodIn_r _ [8, 9, 10, 11, 12, 13, 7, 14, 15, 16, 17, 34, 35, 36, 37, 38, 39, 40, 41, 42, 43, 44, 45, 46, 47, 48, 49, 50, 51, 52, 53, 54, 55, 56] (by decide +kernel) (by decide +kernel)
set_option maxRecDepth 20000 in
theorem gX8_nextOf_X8_layCame : GoodIn wsX8_nextOf (wsV RX8 100 RX8 yX8_layCame wsX8_layCame) := goodIn_app (goodIn_of _ (by decide +kernel)) ggX8_nextOf_X8_layCame
set_option maxRecDepth 20000 in
theorem ggX8_nextOf_X8_isShift : GoodIn wsX8_nextOf wsX8_isShift := goodIn_r _ [20] (by decide +kernel) (by decide +kernel)
set_option maxRecDepth 20000 in
theorem gX8_nextOf_X8_isShift : GoodIn wsX8_nextOf (va_wsS RX8 86 yX8_isShift wsX8_isShift) := goodIn_app (goodIn_of _ (by decide +kernel)) ggX8_nextOf_X8_isShift
set_option maxRecDepth 20000 in
theorem ggX8_nextOf_X8_in : GoodIn wsX8_nextOf wsX8_in := goodIn_r _ [23] (by decide +kernel) (by decide +kernel)
set_option maxRecDepth 20000 in
theorem gX8_nextOf_X8_in : GoodIn wsX8_nextOf (va_wsS RX8 69 yX8_in wsX8_in) := goodIn_app (goodIn_of _ (by decide +kernel)) ggX8_nextOf_X8_in
set_option maxRecDepth 20000 in
theorem ggX8_nextOf_X8_isLeaf : GoodIn wsX8_nextOf wsX8_isLeaf := goodIn_r _ [26] (by decide +kernel) (by decide +kernel)
set_option maxRecDepth 20000 in
theorem gX8_nextOf_X8_isLeaf : GoodIn wsX8_nextOf (va_wsS RX8 80 yX8_isLeaf wsX8_isLeaf) := goodIn_app (goodIn_of _ (by decide +kernel)) ggX8_nextOf_X8_isLeaf
set_option maxRecDepth 20000 in
theorem ggX8_nextOf_X8_leafOf : GoodIn wsX8_nextOf wsX8_leafOf := goodIn_r _ [30, 10, 9, 34, 35, 36, 37, 38, 39, 40, 41, 42, 43, 44, 45, 46, 47, 48, 49, 50, 51, 52, 53, 54, 55, 56] (by decide +kernel) (by decide +kernel)
set_option maxRecDepth 20000 in
theorem gX8_nextOf_X8_leafOf : GoodIn wsX8_nextOf (wsV RX8 104 RX8 yX8_leafOf wsX8_leafOf) := goodIn_app (goodIn_of _ (by decide +kernel)) ggX8_nextOf_X8_leafOf
set_option maxRecDepth 20000 in
theorem ggX8_nextOf_X8_cut : GoodIn wsX8_nextOf wsX8_cut := goodIn_r _ [33] (by decide +kernel) (by decide +kernel)
set_option maxRecDepth 20000 in
theorem gX8_nextOf_X8_cut : GoodIn wsX8_nextOf (va_wsS RX8 107 yX8_cut wsX8_cut) := goodIn_app (goodIn_of _ (by decide +kernel)) ggX8_nextOf_X8_cut
theorem dX8_nextOf_0 : decode cX8_nextOf 0 = .ok (.aload_n 0, 1) := by decide +kernel
theorem dX8_nextOf_1 : decode cX8_nextOf 1 = .ok (.iload_n 1, 1) := by decide +kernel
theorem dX8_nextOf_2 : decode cX8_nextOf 2 = .ok (.invokevirtual 100, 3) := by decide +kernel
theorem dX8_nextOf_5 : decode cX8_nextOf 5 = .ok (.iconst 0, 1) := by decide +kernel
theorem dX8_nextOf_6 : decode cX8_nextOf 6 = .ok (.istore_n 2, 1) := by decide +kernel
theorem dX8_nextOf_7 : decode cX8_nextOf 7 = .ok (.aload_n 0, 1) := by decide +kernel
theorem dX8_nextOf_8 : decode cX8_nextOf 8 = .ok (.getfield 26, 3) := by decide +kernel
theorem dX8_nextOf_11 : decode cX8_nextOf 11 = .ok (.iconst 1, 1) := by decide +kernel
theorem dX8_nextOf_12 : decode cX8_nextOf 12 = .ok (.isub, 1) := by decide +kernel
theorem dX8_nextOf_13 : decode cX8_nextOf 13 = .ok (.istore_n 3, 1) := by decide +kernel
theorem dX8_nextOf_14 : decode cX8_nextOf 14 = .ok (.iload_n 3, 1) := by decide +kernel
theorem dX8_nextOf_15 : decode cX8_nextOf 15 = .ok (.ifCond .lt 251, 3) := by decide +kernel
theorem dX8_nextOf_18 : decode cX8_nextOf 18 = .ok (.aload_n 0, 1) := by decide +kernel
theorem dX8_nextOf_19 : decode cX8_nextOf 19 = .ok (.getfield 29, 3) := by decide +kernel
theorem dX8_nextOf_22 : decode cX8_nextOf 22 = .ok (.iload_n 3, 1) := by decide +kernel
theorem dX8_nextOf_23 : decode cX8_nextOf 23 = .ok (.iaload, 1) := by decide +kernel
theorem dX8_nextOf_24 : decode cX8_nextOf 24 = .ok (.istore 4, 2) := by decide +kernel
theorem dX8_nextOf_26 : decode cX8_nextOf 26 = .ok (.iload_n 3, 1) := by decide +kernel
theorem dX8_nextOf_27 : decode cX8_nextOf 27 = .ok (.ifCond .le 33, 3) := by decide +kernel
theorem dX8_nextOf_30 : decode cX8_nextOf 30 = .ok (.aload_n 0, 1) := by decide +kernel
theorem dX8_nextOf_31 : decode cX8_nextOf 31 = .ok (.getfield 29, 3) := by decide +kernel
theorem dX8_nextOf_34 : decode cX8_nextOf 34 = .ok (.iload_n 3, 1) := by decide +kernel
theorem dX8_nextOf_35 : decode cX8_nextOf 35 = .ok (.iconst 1, 1) := by decide +kernel
theorem dX8_nextOf_36 : decode cX8_nextOf 36 = .ok (.isub, 1) := by decide +kernel
theorem dX8_nextOf_37 : decode cX8_nextOf 37 = .ok (.iaload, 1) := by decide +kernel
theorem dX8_nextOf_38 : decode cX8_nextOf 38 = .ok (.invokestatic 86, 3) := by decide +kernel
theorem dX8_nextOf_41 : decode cX8_nextOf 41 = .ok (.ifCond .eq 19, 3) := by decide +kernel
theorem dX8_nextOf_44 : decode cX8_nextOf 44 = .ok (.iload 4, 2) := by decide +kernel
theorem dX8_nextOf_46 : decode cX8_nextOf 46 = .ok (.bipush 48, 2) := by decide +kernel
theorem dX8_nextOf_48 : decode cX8_nextOf 48 = .ok (.bipush 57, 2) := by decide +kernel
theorem dX8_nextOf_50 : decode cX8_nextOf 50 = .ok (.invokestatic 69, 3) := by decide +kernel
theorem dX8_nextOf_53 : decode cX8_nextOf 53 = .ok (.ifCond .eq 7, 3) := by decide +kernel
theorem dX8_nextOf_56 : decode cX8_nextOf 56 = .ok (.iconst 1, 1) := by decide +kernel
theorem dX8_nextOf_57 : decode cX8_nextOf 57 = .ok (.goto 4, 3) := by decide +kernel
theorem dX8_nextOf_60 : decode cX8_nextOf 60 = .ok (.iconst 0, 1) := by decide +kernel
theorem dX8_nextOf_61 : decode cX8_nextOf 61 = .ok (.istore 5, 2) := by decide +kernel
theorem dX8_nextOf_63 : decode cX8_nextOf 63 = .ok (.iload 5, 2) := by decide +kernel
theorem dX8_nextOf_65 : decode cX8_nextOf 65 = .ok (.ifCond .ne 195, 3) := by decide +kernel
theorem dX8_nextOf_68 : decode cX8_nextOf 68 = .ok (.iload 4, 2) := by decide +kernel
theorem dX8_nextOf_70 : decode cX8_nextOf 70 = .ok (.invokestatic 80, 3) := by decide +kernel
theorem dX8_nextOf_73 : decode cX8_nextOf 73 = .ok (.ifCond .eq 22, 3) := by decide +kernel
theorem dX8_nextOf_76 : decode cX8_nextOf 76 = .ok (.aload_n 0, 1) := by decide +kernel
theorem dX8_nextOf_77 : decode cX8_nextOf 77 = .ok (.getfield 44, 3) := by decide +kernel
theorem dX8_nextOf_80 : decode cX8_nextOf 80 = .ok (.iload_n 2, 1) := by decide +kernel
theorem dX8_nextOf_81 : decode cX8_nextOf 81 = .ok (.aload_n 0, 1) := by decide +kernel
theorem dX8_nextOf_82 : decode cX8_nextOf 82 = .ok (.iload 4, 2) := by decide +kernel
theorem dX8_nextOf_84 : decode cX8_nextOf 84 = .ok (.iload_n 1, 1) := by decide +kernel
theorem dX8_nextOf_85 : decode cX8_nextOf 85 = .ok (.invokevirtual 104, 3) := by decide +kernel
theorem dX8_nextOf_88 : decode cX8_nextOf 88 = .ok (.iastore, 1) := by decide +kernel
theorem dX8_nextOf_89 : decode cX8_nextOf 89 = .ok (.iinc 2 1, 3) := by decide +kernel
theorem dX8_nextOf_92 : decode cX8_nextOf 92 = .ok (.goto 168, 3) := by decide +kernel
theorem dX8_nextOf_95 : decode cX8_nextOf 95 = .ok (.iload 4, 2) := by decide +kernel
theorem dX8_nextOf_97 : decode cX8_nextOf 97 = .ok (.bipush 126, 2) := by decide +kernel
theorem dX8_nextOf_99 : decode cX8_nextOf 99 = .ok (.if_icmp .ne 25, 3) := by decide +kernel
theorem dX8_nextOf_102 : decode cX8_nextOf 102 = .ok (.aload_n 0, 1) := by decide +kernel
theorem dX8_nextOf_103 : decode cX8_nextOf 103 = .ok (.getfield 44, 3) := by decide +kernel
theorem dX8_nextOf_106 : decode cX8_nextOf 106 = .ok (.iload_n 2, 1) := by decide +kernel
theorem dX8_nextOf_107 : decode cX8_nextOf 107 = .ok (.iconst 1, 1) := by decide +kernel
theorem dX8_nextOf_108 : decode cX8_nextOf 108 = .ok (.isub, 1) := by decide +kernel
theorem dX8_nextOf_109 : decode cX8_nextOf 109 = .ok (.bipush 23, 2) := by decide +kernel
theorem dX8_nextOf_111 : decode cX8_nextOf 111 = .ok (.aload_n 0, 1) := by decide +kernel
theorem dX8_nextOf_112 : decode cX8_nextOf 112 = .ok (.getfield 44, 3) := by decide +kernel
theorem dX8_nextOf_115 : decode cX8_nextOf 115 = .ok (.iload_n 2, 1) := by decide +kernel
theorem dX8_nextOf_116 : decode cX8_nextOf 116 = .ok (.iconst 1, 1) := by decide +kernel
theorem dX8_nextOf_117 : decode cX8_nextOf 117 = .ok (.isub, 1) := by decide +kernel
theorem dX8_nextOf_118 : decode cX8_nextOf 118 = .ok (.iaload, 1) := by decide +kernel
theorem dX8_nextOf_119 : decode cX8_nextOf 119 = .ok (.isub, 1) := by decide +kernel
theorem dX8_nextOf_120 : decode cX8_nextOf 120 = .ok (.iastore, 1) := by decide +kernel
theorem dX8_nextOf_121 : decode cX8_nextOf 121 = .ok (.goto 139, 3) := by decide +kernel
theorem dX8_nextOf_124 : decode cX8_nextOf 124 = .ok (.iload 4, 2) := by decide +kernel
theorem dX8_nextOf_126 : decode cX8_nextOf 126 = .ok (.invokestatic 86, 3) := by decide +kernel
theorem dX8_nextOf_129 : decode cX8_nextOf 129 = .ok (.ifCond .eq 45, 3) := by decide +kernel
theorem dX8_nextOf_132 : decode cX8_nextOf 132 = .ok (.aload_n 0, 1) := by decide +kernel
theorem dX8_nextOf_133 : decode cX8_nextOf 133 = .ok (.getfield 29, 3) := by decide +kernel
theorem dX8_nextOf_136 : decode cX8_nextOf 136 = .ok (.iload_n 3, 1) := by decide +kernel
theorem dX8_nextOf_137 : decode cX8_nextOf 137 = .ok (.iconst 1, 1) := by decide +kernel
theorem dX8_nextOf_138 : decode cX8_nextOf 138 = .ok (.iadd, 1) := by decide +kernel
theorem dX8_nextOf_139 : decode cX8_nextOf 139 = .ok (.iaload, 1) := by decide +kernel
theorem dX8_nextOf_140 : decode cX8_nextOf 140 = .ok (.bipush 48, 2) := by decide +kernel
theorem dX8_nextOf_142 : decode cX8_nextOf 142 = .ok (.isub, 1) := by decide +kernel
theorem dX8_nextOf_143 : decode cX8_nextOf 143 = .ok (.istore 6, 2) := by decide +kernel
theorem dX8_nextOf_145 : decode cX8_nextOf 145 = .ok (.aload_n 0, 1) := by decide +kernel
theorem dX8_nextOf_146 : decode cX8_nextOf 146 = .ok (.getfield 44, 3) := by decide +kernel
theorem dX8_nextOf_149 : decode cX8_nextOf 149 = .ok (.iload_n 2, 1) := by decide +kernel
theorem dX8_nextOf_150 : decode cX8_nextOf 150 = .ok (.iconst 1, 1) := by decide +kernel
theorem dX8_nextOf_151 : decode cX8_nextOf 151 = .ok (.isub, 1) := by decide +kernel
theorem dX8_nextOf_152 : decode cX8_nextOf 152 = .ok (.dup2, 1) := by decide +kernel
theorem dX8_nextOf_153 : decode cX8_nextOf 153 = .ok (.iaload, 1) := by decide +kernel
theorem dX8_nextOf_154 : decode cX8_nextOf 154 = .ok (.iload 4, 2) := by decide +kernel
theorem dX8_nextOf_156 : decode cX8_nextOf 156 = .ok (.bipush 45, 2) := by decide +kernel
theorem dX8_nextOf_158 : decode cX8_nextOf 158 = .ok (.if_icmp .ne 9, 3) := by decide +kernel
theorem dX8_nextOf_161 : decode cX8_nextOf 161 = .ok (.iload 6, 2) := by decide +kernel
theorem dX8_nextOf_163 : decode cX8_nextOf 163 = .ok (.ineg, 1) := by decide +kernel
theorem dX8_nextOf_164 : decode cX8_nextOf 164 = .ok (.goto 5, 3) := by decide +kernel
theorem dX8_nextOf_167 : decode cX8_nextOf 167 = .ok (.iload 6, 2) := by decide +kernel
theorem dX8_nextOf_169 : decode cX8_nextOf 169 = .ok (.iadd, 1) := by decide +kernel
theorem dX8_nextOf_170 : decode cX8_nextOf 170 = .ok (.iastore, 1) := by decide +kernel
theorem dX8_nextOf_171 : decode cX8_nextOf 171 = .ok (.goto 89, 3) := by decide +kernel
theorem dX8_nextOf_174 : decode cX8_nextOf 174 = .ok (.aload_n 0, 1) := by decide +kernel
theorem dX8_nextOf_175 : decode cX8_nextOf 175 = .ok (.getfield 44, 3) := by decide +kernel
theorem dX8_nextOf_178 : decode cX8_nextOf 178 = .ok (.iload_n 2, 1) := by decide +kernel
theorem dX8_nextOf_179 : decode cX8_nextOf 179 = .ok (.iconst 1, 1) := by decide +kernel
theorem dX8_nextOf_180 : decode cX8_nextOf 180 = .ok (.isub, 1) := by decide +kernel
theorem dX8_nextOf_181 : decode cX8_nextOf 181 = .ok (.iaload, 1) := by decide +kernel
theorem dX8_nextOf_182 : decode cX8_nextOf 182 = .ok (.istore 6, 2) := by decide +kernel
theorem dX8_nextOf_184 : decode cX8_nextOf 184 = .ok (.aload_n 0, 1) := by decide +kernel
theorem dX8_nextOf_185 : decode cX8_nextOf 185 = .ok (.getfield 44, 3) := by decide +kernel
theorem dX8_nextOf_188 : decode cX8_nextOf 188 = .ok (.iload_n 2, 1) := by decide +kernel
theorem dX8_nextOf_189 : decode cX8_nextOf 189 = .ok (.iconst 2, 1) := by decide +kernel
theorem dX8_nextOf_190 : decode cX8_nextOf 190 = .ok (.isub, 1) := by decide +kernel
theorem dX8_nextOf_191 : decode cX8_nextOf 191 = .ok (.iaload, 1) := by decide +kernel
theorem dX8_nextOf_192 : decode cX8_nextOf 192 = .ok (.istore 7, 2) := by decide +kernel
theorem dX8_nextOf_194 : decode cX8_nextOf 194 = .ok (.iinc 2 (-1), 3) := by decide +kernel
theorem dX8_nextOf_197 : decode cX8_nextOf 197 = .ok (.aload_n 0, 1) := by decide +kernel
theorem dX8_nextOf_198 : decode cX8_nextOf 198 = .ok (.getfield 44, 3) := by decide +kernel
theorem dX8_nextOf_201 : decode cX8_nextOf 201 = .ok (.iload_n 2, 1) := by decide +kernel
theorem dX8_nextOf_202 : decode cX8_nextOf 202 = .ok (.iconst 1, 1) := by decide +kernel
theorem dX8_nextOf_203 : decode cX8_nextOf 203 = .ok (.isub, 1) := by decide +kernel
theorem dX8_nextOf_204 : decode cX8_nextOf 204 = .ok (.iload 4, 2) := by decide +kernel
theorem dX8_nextOf_206 : decode cX8_nextOf 206 = .ok (.bipush 60, 2) := by decide +kernel
theorem dX8_nextOf_208 : decode cX8_nextOf 208 = .ok (.if_icmp .ne 20, 3) := by decide +kernel
theorem dX8_nextOf_211 : decode cX8_nextOf 211 = .ok (.iload 6, 2) := by decide +kernel
theorem dX8_nextOf_213 : decode cX8_nextOf 213 = .ok (.iload 7, 2) := by decide +kernel
theorem dX8_nextOf_215 : decode cX8_nextOf 215 = .ok (.if_icmp .ge 8, 3) := by decide +kernel
theorem dX8_nextOf_218 : decode cX8_nextOf 218 = .ok (.iload 6, 2) := by decide +kernel
theorem dX8_nextOf_220 : decode cX8_nextOf 220 = .ok (.goto 39, 3) := by decide +kernel
theorem dX8_nextOf_223 : decode cX8_nextOf 223 = .ok (.iload 7, 2) := by decide +kernel
theorem dX8_nextOf_225 : decode cX8_nextOf 225 = .ok (.goto 34, 3) := by decide +kernel
theorem dX8_nextOf_228 : decode cX8_nextOf 228 = .ok (.iload 4, 2) := by decide +kernel
theorem dX8_nextOf_230 : decode cX8_nextOf 230 = .ok (.bipush 62, 2) := by decide +kernel
theorem dX8_nextOf_232 : decode cX8_nextOf 232 = .ok (.if_icmp .ne 20, 3) := by decide +kernel
theorem dX8_nextOf_235 : decode cX8_nextOf 235 = .ok (.iload 6, 2) := by decide +kernel
theorem dX8_nextOf_237 : decode cX8_nextOf 237 = .ok (.iload 7, 2) := by decide +kernel
theorem dX8_nextOf_239 : decode cX8_nextOf 239 = .ok (.if_icmp .le 8, 3) := by decide +kernel
theorem dX8_nextOf_242 : decode cX8_nextOf 242 = .ok (.iload 6, 2) := by decide +kernel
theorem dX8_nextOf_244 : decode cX8_nextOf 244 = .ok (.goto 15, 3) := by decide +kernel
theorem dX8_nextOf_247 : decode cX8_nextOf 247 = .ok (.iload 7, 2) := by decide +kernel
theorem dX8_nextOf_249 : decode cX8_nextOf 249 = .ok (.goto 10, 3) := by decide +kernel
theorem dX8_nextOf_252 : decode cX8_nextOf 252 = .ok (.iload 6, 2) := by decide +kernel
theorem dX8_nextOf_254 : decode cX8_nextOf 254 = .ok (.iload 7, 2) := by decide +kernel
theorem dX8_nextOf_256 : decode cX8_nextOf 256 = .ok (.iadd, 1) := by decide +kernel
theorem dX8_nextOf_257 : decode cX8_nextOf 257 = .ok (.iconst 2, 1) := by decide +kernel
theorem dX8_nextOf_258 : decode cX8_nextOf 258 = .ok (.idiv, 1) := by decide +kernel
theorem dX8_nextOf_259 : decode cX8_nextOf 259 = .ok (.iastore, 1) := by decide +kernel
theorem dX8_nextOf_260 : decode cX8_nextOf 260 = .ok (.iinc 3 (-1), 3) := by decide +kernel
theorem dX8_nextOf_263 : decode cX8_nextOf 263 = .ok (.goto (-249), 3) := by decide +kernel
theorem dX8_nextOf_266 : decode cX8_nextOf 266 = .ok (.aload_n 0, 1) := by decide +kernel
theorem dX8_nextOf_267 : decode cX8_nextOf 267 = .ok (.getfield 44, 3) := by decide +kernel
theorem dX8_nextOf_270 : decode cX8_nextOf 270 = .ok (.iconst 0, 1) := by decide +kernel
theorem dX8_nextOf_271 : decode cX8_nextOf 271 = .ok (.iaload, 1) := by decide +kernel
theorem dX8_nextOf_272 : decode cX8_nextOf 272 = .ok (.invokestatic 107, 3) := by decide +kernel
theorem dX8_nextOf_275 : decode cX8_nextOf 275 = .ok (.ireturn, 1) := by decide +kernel
theorem dX8_asTold_0 : decode cX8_asTold 0 = .ok (.aload_n 0, 1) := by decide +kernel
theorem dX8_asTold_1 : decode cX8_asTold 1 = .ok (.iconst 0, 1) := by decide +kernel
theorem dX8_asTold_2 : decode cX8_asTold 2 = .ok (.putfield 93, 3) := by decide +kernel
theorem dX8_asTold_5 : decode cX8_asTold 5 = .ok (.iconst 0, 1) := by decide +kernel
theorem dX8_asTold_6 : decode cX8_asTold 6 = .ok (.istore_n 1, 1) := by decide +kernel
theorem dX8_asTold_7 : decode cX8_asTold 7 = .ok (.iload_n 1, 1) := by decide +kernel
theorem dX8_asTold_8 : decode cX8_asTold 8 = .ok (.bipush 6, 2) := by decide +kernel
theorem dX8_asTold_10 : decode cX8_asTold 10 = .ok (.if_icmp .ge 21, 3) := by decide +kernel
theorem dX8_asTold_13 : decode cX8_asTold 13 = .ok (.aload_n 0, 1) := by decide +kernel
theorem dX8_asTold_14 : decode cX8_asTold 14 = .ok (.getfield 38, 3) := by decide +kernel
theorem dX8_asTold_17 : decode cX8_asTold 17 = .ok (.iload_n 1, 1) := by decide +kernel
theorem dX8_asTold_18 : decode cX8_asTold 18 = .ok (.aload_n 0, 1) := by decide +kernel
theorem dX8_asTold_19 : decode cX8_asTold 19 = .ok (.getfield 17, 3) := by decide +kernel
theorem dX8_asTold_22 : decode cX8_asTold 22 = .ok (.iload_n 1, 1) := by decide +kernel
theorem dX8_asTold_23 : decode cX8_asTold 23 = .ok (.iaload, 1) := by decide +kernel
theorem dX8_asTold_24 : decode cX8_asTold 24 = .ok (.iastore, 1) := by decide +kernel
theorem dX8_asTold_25 : decode cX8_asTold 25 = .ok (.iinc 1 1, 3) := by decide +kernel
theorem dX8_asTold_28 : decode cX8_asTold 28 = .ok (.goto (-21), 3) := by decide +kernel
theorem dX8_asTold_31 : decode cX8_asTold 31 = .ok (.return_, 1) := by decide +kernel
set_option maxRecDepth 20000 in
theorem ggX8_hourOf_X8_nextOf : GoodIn wsX8_hourOf wsX8_nextOf := goodIn_r _ [5, 6, 7, 8, 9, 10, 11, 4, 12, 13, 14, 15, 16, 17, 18, 19, 20, 21, 22, 23, 24, 25, 26, 27, 28, 29, 30, 31, 32, 33, 34, 35, 36, 37, 38, 39, 40, 41, 42, 43, 44, 45, 46, 47, 48, 49, 50, 51, 52, 53, 54, 55, 56, 57, 58, 59, 60] (by decide +kernel) (by decide +kernel)
set_option maxRecDepth 20000 in
theorem gX8_hourOf_X8_nextOf : GoodIn wsX8_hourOf (wsV RX8 111 RX8 yX8_nextOf wsX8_nextOf) := goodIn_app (goodIn_of _ (by decide +kernel)) ggX8_hourOf_X8_nextOf
theorem dX8_hourOf_0 : decode cX8_hourOf 0 = .ok (.iload_n 1, 1) := by decide +kernel
theorem dX8_hourOf_1 : decode cX8_hourOf 1 = .ok (.istore_n 3, 1) := by decide +kernel
theorem dX8_hourOf_2 : decode cX8_hourOf 2 = .ok (.iconst 0, 1) := by decide +kernel
theorem dX8_hourOf_3 : decode cX8_hourOf 3 = .ok (.istore 4, 2) := by decide +kernel
theorem dX8_hourOf_5 : decode cX8_hourOf 5 = .ok (.iload 4, 2) := by decide +kernel
theorem dX8_hourOf_7 : decode cX8_hourOf 7 = .ok (.iload_n 2, 1) := by decide +kernel
theorem dX8_hourOf_8 : decode cX8_hourOf 8 = .ok (.if_icmp .ge 15, 3) := by decide +kernel
theorem dX8_hourOf_11 : decode cX8_hourOf 11 = .ok (.aload_n 0, 1) := by decide +kernel
theorem dX8_hourOf_12 : decode cX8_hourOf 12 = .ok (.iload_n 3, 1) := by decide +kernel
theorem dX8_hourOf_13 : decode cX8_hourOf 13 = .ok (.invokevirtual 111, 3) := by decide +kernel
theorem dX8_hourOf_16 : decode cX8_hourOf 16 = .ok (.istore_n 3, 1) := by decide +kernel
theorem dX8_hourOf_17 : decode cX8_hourOf 17 = .ok (.iinc 4 1, 3) := by decide +kernel
theorem dX8_hourOf_20 : decode cX8_hourOf 20 = .ok (.goto (-15), 3) := by decide +kernel
theorem dX8_hourOf_23 : decode cX8_hourOf 23 = .ok (.iload_n 3, 1) := by decide +kernel
theorem dX8_hourOf_24 : decode cX8_hourOf 24 = .ok (.ireturn, 1) := by decide +kernel
set_option maxRecDepth 20000 in
theorem ggX8_hour_X8_isHour : GoodIn wsX8_hour wsX8_isHour := goodIn_r _ [4, 5, 6, 3, 7] (by decide +kernel) (by decide +kernel)
set_option maxRecDepth 20000 in
theorem gX8_hour_X8_isHour : GoodIn wsX8_hour (va_wsS RX8 114 yX8_isHour wsX8_isHour) := goodIn_app (goodIn_of _ (by decide +kernel)) ggX8_hour_X8_isHour
set_option maxRecDepth 20000 in
theorem ggX8_hour_X8_in : GoodIn wsX8_hour wsX8_in := goodIn_r _ [7] (by decide +kernel) (by decide +kernel)
set_option maxRecDepth 20000 in
theorem gX8_hour_X8_in : GoodIn wsX8_hour (va_wsS RX8 69 yX8_in wsX8_in) := goodIn_app (goodIn_of _ (by decide +kernel)) ggX8_hour_X8_in
set_option maxRecDepth 20000 in
theorem ggX8_hour_X8_asTold : GoodIn wsX8_hour wsX8_asTold := goodIn_r _ [11, 12, 13, 14, 50, 51, 52, 53, 54, 55, 56, 57, 58, 59, 60, 61, 62, 63, 64, 65, 66, 67, 68, 69, 70, 71, 72] (by decide +kernel) (by decide +kernel)
set_option maxRecDepth 20000 in
theorem gX8_hour_X8_asTold : GoodIn wsX8_hour (wsV RX8 117 RX8 yX8_asTold wsX8_asTold) := goodIn_app (goodIn_of _ (by decide +kernel)) ggX8_hour_X8_asTold
set_option maxRecDepth 20000 in
theorem ggX8_hour_X8_hourOf : GoodIn wsX8_hour wsX8_hourOf := goodIn_r _ [18, 19, 20, 21, 3, 22, 23, 24, 25, 26, 27, 28, 29, 30, 31, 32, 33, 34, 35, 36, 12, 13, 37, 38, 39, 5, 6, 7, 40, 41, 42, 43, 44, 45, 46, 47, 48, 49, 50, 51, 52, 53, 54, 55, 56, 57, 58, 59, 60, 61, 62, 63, 64, 65, 66, 67, 68, 69, 70, 71, 72] (by decide +kernel) (by decide +kernel)
set_option maxRecDepth 20000 in
theorem gX8_hour_X8_hourOf : GoodIn wsX8_hour (wsV RX8 120 RX8 yX8_hourOf wsX8_hourOf) := goodIn_app (goodIn_of _ (by decide +kernel)) ggX8_hour_X8_hourOf
theorem dX8_hour_0 : decode cX8_hour 0 = .ok (.iload_n 1, 1) := by decide +kernel
theorem dX8_hour_1 : decode cX8_hour 1 = .ok (.invokestatic 114, 3) := by decide +kernel
theorem dX8_hour_4 : decode cX8_hour 4 = .ok (.ifCond .eq 13, 3) := by decide +kernel
theorem dX8_hour_7 : decode cX8_hour 7 = .ok (.iload_n 2, 1) := by decide +kernel
theorem dX8_hour_8 : decode cX8_hour 8 = .ok (.iconst 0, 1) := by decide +kernel
theorem dX8_hour_9 : decode cX8_hour 9 = .ok (.bipush 99, 2) := by decide +kernel
theorem dX8_hour_11 : decode cX8_hour 11 = .ok (.invokestatic 69, 3) := by decide +kernel
theorem dX8_hour_14 : decode cX8_hour 14 = .ok (.ifCond .ne 6, 3) := by decide +kernel
theorem dX8_hour_17 : decode cX8_hour 17 = .ok (.bipush (-2), 2) := by decide +kernel
theorem dX8_hour_19 : decode cX8_hour 19 = .ok (.ireturn, 1) := by decide +kernel
theorem dX8_hour_20 : decode cX8_hour 20 = .ok (.aload_n 0, 1) := by decide +kernel
theorem dX8_hour_21 : decode cX8_hour 21 = .ok (.invokevirtual 117, 3) := by decide +kernel
theorem dX8_hour_24 : decode cX8_hour 24 = .ok (.aload_n 0, 1) := by decide +kernel
theorem dX8_hour_25 : decode cX8_hour 25 = .ok (.iload_n 1, 1) := by decide +kernel
theorem dX8_hour_26 : decode cX8_hour 26 = .ok (.iload_n 2, 1) := by decide +kernel
theorem dX8_hour_27 : decode cX8_hour 27 = .ok (.invokevirtual 120, 3) := by decide +kernel
theorem dX8_hour_30 : decode cX8_hour 30 = .ok (.ireturn, 1) := by decide +kernel
set_option maxRecDepth 20000 in
theorem ggX8_comes_X8_isMember : GoodIn wsX8_comes wsX8_isMember := goodIn_r _ [5, 6, 7, 8, 4, 9, 54, 55, 56, 57, 58, 59, 60, 61, 62, 63, 64, 65, 66, 67, 68, 69, 70, 71, 72, 73, 74, 75, 76] (by decide +kernel) (by decide +kernel)
set_option maxRecDepth 20000 in
theorem gX8_comes_X8_isMember : GoodIn wsX8_comes (wsV RX8 73 RX8 yX8_isMember wsX8_isMember) := goodIn_app (goodIn_of _ (by decide +kernel)) ggX8_comes_X8_isMember
set_option maxRecDepth 20000 in
theorem ggX8_comes_X8_isHour : GoodIn wsX8_comes wsX8_isHour := goodIn_r _ [12, 7, 8, 4, 9] (by decide +kernel) (by decide +kernel)
set_option maxRecDepth 20000 in
theorem gX8_comes_X8_isHour : GoodIn wsX8_comes (va_wsS RX8 114 yX8_isHour wsX8_isHour) := goodIn_app (goodIn_of _ (by decide +kernel)) ggX8_comes_X8_isHour
set_option maxRecDepth 20000 in
theorem ggX8_comes_X8_in : GoodIn wsX8_comes wsX8_in := goodIn_r _ [9] (by decide +kernel) (by decide +kernel)
set_option maxRecDepth 20000 in
theorem gX8_comes_X8_in : GoodIn wsX8_comes (va_wsS RX8 69 yX8_in wsX8_in) := goodIn_app (goodIn_of _ (by decide +kernel)) ggX8_comes_X8_in
set_option maxRecDepth 20000 in
theorem ggX8_comes_X8_asTold : GoodIn wsX8_comes wsX8_asTold := goodIn_r _ [16, 17, 18, 19, 54, 55, 56, 57, 58, 59, 60, 61, 62, 63, 64, 65, 66, 67, 68, 69, 70, 71, 72, 73, 74, 75, 76] (by decide +kernel) (by decide +kernel)
set_option maxRecDepth 20000 in
theorem gX8_comes_X8_asTold : GoodIn wsX8_comes (wsV RX8 117 RX8 yX8_asTold wsX8_asTold) := goodIn_app (goodIn_of _ (by decide +kernel)) ggX8_comes_X8_asTold
set_option maxRecDepth 20000 in
theorem ggX8_comes_X8_hourOf : GoodIn wsX8_comes wsX8_hourOf := goodIn_r _ [23, 24, 25, 26, 4, 27, 28, 29, 30, 31, 32, 33, 34, 6, 35, 36, 37, 38, 39, 40, 17, 18, 41, 42, 43, 7, 8, 9, 44, 45, 46, 47, 48, 49, 50, 51, 52, 53, 54, 55, 56, 57, 58, 59, 60, 61, 62, 63, 64, 65, 66, 67, 68, 69, 70, 71, 72, 73, 74, 75, 76] (by decide +kernel) (by decide +kernel)
set_option maxRecDepth 20000 in
theorem gX8_comes_X8_hourOf : GoodIn wsX8_comes (wsV RX8 120 RX8 yX8_hourOf wsX8_hourOf) := goodIn_app (goodIn_of _ (by decide +kernel)) ggX8_comes_X8_hourOf
set_option maxRecDepth 20000 in
theorem ggX8_comes_X8_comesAt : GoodIn wsX8_comes wsX8_comesAt := goodIn_r _ [39, 40, 17, 18, 54, 55, 56, 57, 58, 59, 60, 61, 62, 63, 64, 65, 66, 67, 68, 69, 70, 71, 72, 73, 74, 75, 76] (by decide +kernel) (by decide +kernel)
set_option maxRecDepth 20000 in
theorem gX8_comes_X8_comesAt : GoodIn wsX8_comes (wsV RX8 96 RX8 yX8_comesAt wsX8_comesAt) := goodIn_app (goodIn_of _ (by decide +kernel)) ggX8_comes_X8_comesAt
theorem dX8_comes_0 : decode cX8_comes 0 = .ok (.aload_n 0, 1) := by decide +kernel
theorem dX8_comes_1 : decode cX8_comes 1 = .ok (.iload_n 1, 1) := by decide +kernel
theorem dX8_comes_2 : decode cX8_comes 2 = .ok (.invokevirtual 73, 3) := by decide +kernel
theorem dX8_comes_5 : decode cX8_comes 5 = .ok (.ifCond .ne 5, 3) := by decide +kernel
theorem dX8_comes_8 : decode cX8_comes 8 = .ok (.iconst (-1), 1) := by decide +kernel
theorem dX8_comes_9 : decode cX8_comes 9 = .ok (.ireturn, 1) := by decide +kernel
theorem dX8_comes_10 : decode cX8_comes 10 = .ok (.iload_n 2, 1) := by decide +kernel
theorem dX8_comes_11 : decode cX8_comes 11 = .ok (.invokestatic 114, 3) := by decide +kernel
theorem dX8_comes_14 : decode cX8_comes 14 = .ok (.ifCond .eq 13, 3) := by decide +kernel
theorem dX8_comes_17 : decode cX8_comes 17 = .ok (.iload_n 3, 1) := by decide +kernel
theorem dX8_comes_18 : decode cX8_comes 18 = .ok (.iconst 0, 1) := by decide +kernel
theorem dX8_comes_19 : decode cX8_comes 19 = .ok (.bipush 99, 2) := by decide +kernel
theorem dX8_comes_21 : decode cX8_comes 21 = .ok (.invokestatic 69, 3) := by decide +kernel
theorem dX8_comes_24 : decode cX8_comes 24 = .ok (.ifCond .ne 6, 3) := by decide +kernel
theorem dX8_comes_27 : decode cX8_comes 27 = .ok (.bipush (-2), 2) := by decide +kernel
theorem dX8_comes_29 : decode cX8_comes 29 = .ok (.ireturn, 1) := by decide +kernel
theorem dX8_comes_30 : decode cX8_comes 30 = .ok (.aload_n 0, 1) := by decide +kernel
theorem dX8_comes_31 : decode cX8_comes 31 = .ok (.invokevirtual 117, 3) := by decide +kernel
theorem dX8_comes_34 : decode cX8_comes 34 = .ok (.aload_n 0, 1) := by decide +kernel
theorem dX8_comes_35 : decode cX8_comes 35 = .ok (.iload_n 1, 1) := by decide +kernel
theorem dX8_comes_36 : decode cX8_comes 36 = .ok (.aload_n 0, 1) := by decide +kernel
theorem dX8_comes_37 : decode cX8_comes 37 = .ok (.iload_n 2, 1) := by decide +kernel
theorem dX8_comes_38 : decode cX8_comes 38 = .ok (.iload_n 3, 1) := by decide +kernel
theorem dX8_comes_39 : decode cX8_comes 39 = .ok (.invokevirtual 120, 3) := by decide +kernel
theorem dX8_comes_42 : decode cX8_comes 42 = .ok (.invokevirtual 96, 3) := by decide +kernel
theorem dX8_comes_45 : decode cX8_comes 45 = .ok (.ireturn, 1) := by decide +kernel
set_option maxRecDepth 20000 in
theorem ggX8_layTends_X8_nextOf : GoodIn wsX8_layTends wsX8_nextOf := goodIn_r _ [9, 10, 11, 12, 13, 14, 15, 8, 16, 17, 18, 19, 20, 21, 22, 23, 24, 25, 26, 27, 28, 29, 30, 31, 32, 33, 34, 35, 36, 37, 38, 39, 40, 41, 42, 43, 44, 45, 46, 47, 48, 49, 50, 51, 52, 53, 54, 55, 56, 57, 58, 59, 60, 61, 62, 63, 64] (by decide +kernel) (by decide +kernel)
set_option maxRecDepth 20000 in
theorem gX8_layTends_X8_nextOf : GoodIn wsX8_layTends (wsV RX8 111 RX8 yX8_nextOf wsX8_nextOf) := goodIn_app (goodIn_of _ (by decide +kernel)) ggX8_layTends_X8_nextOf
theorem dX8_layTends_0 : decode cX8_layTends 0 = .ok (.iconst 0, 1) := by decide +kernel
theorem dX8_layTends_1 : decode cX8_layTends 1 = .ok (.istore_n 2, 1) := by decide +kernel
