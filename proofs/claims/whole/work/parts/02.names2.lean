theorem dX0_init_0 : decode cX0_init 0 = .ok (.aload_n 0, 1) := by decide +kernel
theorem dX0_init_1 : decode cX0_init 1 = .ok (.invokespecial 3, 3) := by decide +kernel
theorem dX0_init_4 : decode cX0_init 4 = .ok (.aload_n 0, 1) := by decide +kernel
theorem dX0_init_5 : decode cX0_init 5 = .ok (.bipush 6, 2) := by decide +kernel
theorem dX0_init_7 : decode cX0_init 7 = .ok (.newarray .int, 2) := by decide +kernel
theorem dX0_init_9 : decode cX0_init 9 = .ok (.putfield 9, 3) := by decide +kernel
theorem dX0_init_12 : decode cX0_init 12 = .ok (.aload_n 0, 1) := by decide +kernel
theorem dX0_init_13 : decode cX0_init 13 = .ok (.bipush 6, 2) := by decide +kernel
theorem dX0_init_15 : decode cX0_init 15 = .ok (.newarray .int, 2) := by decide +kernel
theorem dX0_init_17 : decode cX0_init 17 = .ok (.putfield 15, 3) := by decide +kernel
theorem dX0_init_20 : decode cX0_init 20 = .ok (.aload_n 0, 1) := by decide +kernel
theorem dX0_init_21 : decode cX0_init 21 = .ok (.bipush 20, 2) := by decide +kernel
theorem dX0_init_23 : decode cX0_init 23 = .ok (.newarray .int, 2) := by decide +kernel
theorem dX0_init_25 : decode cX0_init 25 = .ok (.putfield 18, 3) := by decide +kernel
theorem dX0_init_28 : decode cX0_init 28 = .ok (.aload_n 0, 1) := by decide +kernel
theorem dX0_init_29 : decode cX0_init 29 = .ok (.aload_n 1, 1) := by decide +kernel
theorem dX0_init_30 : decode cX0_init 30 = .ok (.putfield 21, 3) := by decide +kernel
theorem dX0_init_33 : decode cX0_init 33 = .ok (.return_, 1) := by decide +kernel
theorem dX0_tryAsTold_0 : decode cX0_tryAsTold 0 = .ok (.aload_n 0, 1) := by decide +kernel
theorem dX0_tryAsTold_1 : decode cX0_tryAsTold 1 = .ok (.getfield 21, 3) := by decide +kernel
theorem dX0_tryAsTold_4 : decode cX0_tryAsTold 4 = .ok (.getfield 25, 3) := by decide +kernel
theorem dX0_tryAsTold_7 : decode cX0_tryAsTold 7 = .ok (.iconst 0, 1) := by decide +kernel
theorem dX0_tryAsTold_8 : decode cX0_tryAsTold 8 = .ok (.aload_n 0, 1) := by decide +kernel
theorem dX0_tryAsTold_9 : decode cX0_tryAsTold 9 = .ok (.getfield 9, 3) := by decide +kernel
theorem dX0_tryAsTold_12 : decode cX0_tryAsTold 12 = .ok (.iconst 0, 1) := by decide +kernel
theorem dX0_tryAsTold_13 : decode cX0_tryAsTold 13 = .ok (.bipush 6, 2) := by decide +kernel
theorem dX0_tryAsTold_15 : decode cX0_tryAsTold 15 = .ok (.invokestatic 30, 3) := by decide +kernel
theorem dX0_tryAsTold_18 : decode cX0_tryAsTold 18 = .ok (.return_, 1) := by decide +kernel
set_option maxRecDepth 20000 in
theorem ggX0_nextHour_X7_comingAt : GoodIn wsX0_nextHour wsX7_comingAt := goodIn_r _ [13, 14, 9, 6, 10, 15, 5, 7] (by decide +kernel) (by decide +kernel)
set_option maxRecDepth 20000 in
theorem gX0_nextHour_X7_comingAt_n43 : GoodIn wsX0_nextHour (wsX7_comingAt) := ggX0_nextHour_X7_comingAt
set_option maxRecDepth 20000 in
theorem ggX0_nextHour_X0_insert : GoodIn wsX0_nextHour wsX0_insert := goodIn_r _ [20, 21, 42, 43, 44, 45, 46] (by decide +kernel) (by decide +kernel)
set_option maxRecDepth 20000 in
theorem gX0_nextHour_X0_insert : GoodIn wsX0_nextHour (wsV RX0 47 RX0 yX0_insert wsX0_insert) := goodIn_app (goodIn_of _ (by decide +kernel)) ggX0_nextHour_X0_insert
set_option maxRecDepth 20000 in
theorem ggX0_nextHour_X0_madeBy : GoodIn wsX0_nextHour wsX0_madeBy := goodIn_r _ [25, 26, 27, 28, 4, 5, 6, 7, 8, 9, 10, 21, 29, 30, 31, 19, 32, 33, 34, 35, 36, 37, 38, 39, 40, 41, 1, 2, 42, 43, 44, 45, 46, 56, 57, 47, 48, 49, 50, 51, 52, 53, 54, 55] (by decide +kernel) (by decide +kernel)
set_option maxRecDepth 20000 in
theorem gX0_nextHour_X0_madeBy : GoodIn wsX0_nextHour (wsV RX0 51 RX0 yX0_madeBy wsX0_madeBy) := goodIn_app (goodIn_of _ (by decide +kernel)) ggX0_nextHour_X0_madeBy
theorem dX0_nextHour_0 : decode cX0_nextHour 0 = .ok (.iconst 0, 1) := by decide +kernel
theorem dX0_nextHour_1 : decode cX0_nextHour 1 = .ok (.istore 5, 2) := by decide +kernel
theorem dX0_nextHour_3 : decode cX0_nextHour 3 = .ok (.iload 5, 2) := by decide +kernel
theorem dX0_nextHour_5 : decode cX0_nextHour 5 = .ok (.aload_n 0, 1) := by decide +kernel
theorem dX0_nextHour_6 : decode cX0_nextHour 6 = .ok (.getfield 21, 3) := by decide +kernel
theorem dX0_nextHour_9 : decode cX0_nextHour 9 = .ok (.getfield 36, 3) := by decide +kernel
theorem dX0_nextHour_12 : decode cX0_nextHour 12 = .ok (.if_icmp .ge 36, 3) := by decide +kernel
theorem dX0_nextHour_15 : decode cX0_nextHour 15 = .ok (.aload_n 0, 1) := by decide +kernel
theorem dX0_nextHour_16 : decode cX0_nextHour 16 = .ok (.iload 5, 2) := by decide +kernel
theorem dX0_nextHour_18 : decode cX0_nextHour 18 = .ok (.iload_n 2, 1) := by decide +kernel
theorem dX0_nextHour_19 : decode cX0_nextHour 19 = .ok (.aload_n 0, 1) := by decide +kernel
theorem dX0_nextHour_20 : decode cX0_nextHour 20 = .ok (.getfield 21, 3) := by decide +kernel
theorem dX0_nextHour_23 : decode cX0_nextHour 23 = .ok (.getfield 40, 3) := by decide +kernel
theorem dX0_nextHour_26 : decode cX0_nextHour 26 = .ok (.iload 5, 2) := by decide +kernel
theorem dX0_nextHour_28 : decode cX0_nextHour 28 = .ok (.iaload, 1) := by decide +kernel
theorem dX0_nextHour_29 : decode cX0_nextHour 29 = .ok (.iload 4, 2) := by decide +kernel
theorem dX0_nextHour_31 : decode cX0_nextHour 31 = .ok (.iadd, 1) := by decide +kernel
theorem dX0_nextHour_32 : decode cX0_nextHour 32 = .ok (.aload_n 3, 1) := by decide +kernel
theorem dX0_nextHour_33 : decode cX0_nextHour 33 = .ok (.iload 5, 2) := by decide +kernel
theorem dX0_nextHour_35 : decode cX0_nextHour 35 = .ok (.iaload, 1) := by decide +kernel
theorem dX0_nextHour_36 : decode cX0_nextHour 36 = .ok (.invokestatic 43, 3) := by decide +kernel
theorem dX0_nextHour_39 : decode cX0_nextHour 39 = .ok (.invokevirtual 47, 3) := by decide +kernel
theorem dX0_nextHour_42 : decode cX0_nextHour 42 = .ok (.iinc 5 1, 3) := by decide +kernel
theorem dX0_nextHour_45 : decode cX0_nextHour 45 = .ok (.goto (-42), 3) := by decide +kernel
theorem dX0_nextHour_48 : decode cX0_nextHour 48 = .ok (.aload_n 0, 1) := by decide +kernel
theorem dX0_nextHour_49 : decode cX0_nextHour 49 = .ok (.aload_n 1, 1) := by decide +kernel
theorem dX0_nextHour_50 : decode cX0_nextHour 50 = .ok (.iload_n 2, 1) := by decide +kernel
theorem dX0_nextHour_51 : decode cX0_nextHour 51 = .ok (.invokevirtual 51, 3) := by decide +kernel
theorem dX0_nextHour_54 : decode cX0_nextHour 54 = .ok (.istore 5, 2) := by decide +kernel
theorem dX0_nextHour_56 : decode cX0_nextHour 56 = .ok (.iconst 0, 1) := by decide +kernel
theorem dX0_nextHour_57 : decode cX0_nextHour 57 = .ok (.bipush 23, 2) := by decide +kernel
theorem dX0_nextHour_59 : decode cX0_nextHour 59 = .ok (.iload 5, 2) := by decide +kernel
theorem dX0_nextHour_61 : decode cX0_nextHour 61 = .ok (.invokestatic 55, 3) := by decide +kernel
theorem dX0_nextHour_64 : decode cX0_nextHour 64 = .ok (.invokestatic 61, 3) := by decide +kernel
theorem dX0_nextHour_67 : decode cX0_nextHour 67 = .ok (.ireturn, 1) := by decide +kernel
set_option maxRecDepth 20000 in
theorem ggX0_hourAfter_X0_nextHour : GoodIn wsX0_hourAfter wsX0_nextHour := goodIn_r _ [7, 1, 8, 9, 10, 11, 12, 13, 14, 15, 16, 17, 18, 19, 20, 21, 22, 23, 24, 6, 25, 26, 27, 28, 29, 30, 31, 32, 33, 34, 35, 36, 37, 38, 39, 40, 41, 42, 43, 44, 45, 46, 47, 48, 49, 50, 51, 52, 53, 54, 55, 56, 57, 58, 59, 60, 61, 62] (by decide +kernel) (by decide +kernel)
set_option maxRecDepth 20000 in
theorem gX0_hourAfter_X0_nextHour : GoodIn wsX0_hourAfter (wsV RX0 68 RX0 yX0_nextHour wsX0_nextHour) := goodIn_app (goodIn_of _ (by decide +kernel)) ggX0_hourAfter_X0_nextHour
theorem dX0_hourAfter_0 : decode cX0_hourAfter 0 = .ok (.iload_n 1, 1) := by decide +kernel
theorem dX0_hourAfter_1 : decode cX0_hourAfter 1 = .ok (.istore 4, 2) := by decide +kernel
theorem dX0_hourAfter_3 : decode cX0_hourAfter 3 = .ok (.iconst 0, 1) := by decide +kernel
theorem dX0_hourAfter_4 : decode cX0_hourAfter 4 = .ok (.istore 5, 2) := by decide +kernel
theorem dX0_hourAfter_6 : decode cX0_hourAfter 6 = .ok (.iload 5, 2) := by decide +kernel
theorem dX0_hourAfter_8 : decode cX0_hourAfter 8 = .ok (.iload_n 2, 1) := by decide +kernel
theorem dX0_hourAfter_9 : decode cX0_hourAfter 9 = .ok (.if_icmp .ge 40, 3) := by decide +kernel
theorem dX0_hourAfter_12 : decode cX0_hourAfter 12 = .ok (.aload_n 0, 1) := by decide +kernel
theorem dX0_hourAfter_13 : decode cX0_hourAfter 13 = .ok (.aload_n 0, 1) := by decide +kernel
theorem dX0_hourAfter_14 : decode cX0_hourAfter 14 = .ok (.getfield 21, 3) := by decide +kernel
theorem dX0_hourAfter_17 : decode cX0_hourAfter 17 = .ok (.getfield 64, 3) := by decide +kernel
theorem dX0_hourAfter_20 : decode cX0_hourAfter 20 = .ok (.iload 4, 2) := by decide +kernel
theorem dX0_hourAfter_22 : decode cX0_hourAfter 22 = .ok (.aload_n 3, 1) := by decide +kernel
theorem dX0_hourAfter_23 : decode cX0_hourAfter 23 = .ok (.iconst 0, 1) := by decide +kernel
theorem dX0_hourAfter_24 : decode cX0_hourAfter 24 = .ok (.invokevirtual 68, 3) := by decide +kernel
theorem dX0_hourAfter_27 : decode cX0_hourAfter 27 = .ok (.istore 6, 2) := by decide +kernel
theorem dX0_hourAfter_29 : decode cX0_hourAfter 29 = .ok (.iload 6, 2) := by decide +kernel
theorem dX0_hourAfter_31 : decode cX0_hourAfter 31 = .ok (.iload 4, 2) := by decide +kernel
theorem dX0_hourAfter_33 : decode cX0_hourAfter 33 = .ok (.if_icmp .ne 6, 3) := by decide +kernel
theorem dX0_hourAfter_36 : decode cX0_hourAfter 36 = .ok (.iload 4, 2) := by decide +kernel
theorem dX0_hourAfter_38 : decode cX0_hourAfter 38 = .ok (.ireturn, 1) := by decide +kernel
theorem dX0_hourAfter_39 : decode cX0_hourAfter 39 = .ok (.iload 6, 2) := by decide +kernel
theorem dX0_hourAfter_41 : decode cX0_hourAfter 41 = .ok (.istore 4, 2) := by decide +kernel
theorem dX0_hourAfter_43 : decode cX0_hourAfter 43 = .ok (.iinc 5 1, 3) := by decide +kernel
theorem dX0_hourAfter_46 : decode cX0_hourAfter 46 = .ok (.goto (-40), 3) := by decide +kernel
theorem dX0_hourAfter_49 : decode cX0_hourAfter 49 = .ok (.iload 4, 2) := by decide +kernel
theorem dX0_hourAfter_51 : decode cX0_hourAfter 51 = .ok (.ireturn, 1) := by decide +kernel
set_option maxRecDepth 20000 in
theorem ggX0_latesThatFit_X0_tryAsTold : GoodIn wsX0_latesThatFit wsX0_tryAsTold := goodIn_r _ [6, 7, 8, 1, 9, 10, 11, 12, 68, 69, 70, 71, 72, 73, 74, 75, 76, 77, 78, 79, 80, 81] (by decide +kernel) (by decide +kernel)
set_option maxRecDepth 20000 in
theorem gX0_latesThatFit_X0_tryAsTold : GoodIn wsX0_latesThatFit (wsV RX0 72 RX0 yX0_tryAsTold wsX0_tryAsTold) := goodIn_app (goodIn_of _ (by decide +kernel)) ggX0_latesThatFit_X0_tryAsTold
set_option maxRecDepth 20000 in
theorem ggX0_latesThatFit_X0_allSightsHold : GoodIn wsX0_latesThatFit wsX0_allSightsHold := goodIn_r _ [16, 7, 17, 18, 1, 19, 20, 21, 22, 5, 23, 24, 25, 26, 27, 28, 29, 30, 31, 32, 33, 34, 35, 36, 37, 38, 39, 40, 41, 42, 43, 44, 45, 46, 47, 48, 49, 50, 51, 52, 53, 54, 55, 56, 57, 58, 59, 60, 61, 62, 63, 64, 65, 66, 67, 68, 69, 70, 71, 72, 73, 74, 75, 76, 77, 78, 79, 80, 81, 82, 83] (by decide +kernel) (by decide +kernel)
set_option maxRecDepth 20000 in
theorem gX0_latesThatFit_X0_allSightsHold : GoodIn wsX0_latesThatFit (wsV RX0 75 RX0 yX0_allSightsHold wsX0_allSightsHold) := goodIn_app (goodIn_of _ (by decide +kernel)) ggX0_latesThatFit_X0_allSightsHold
theorem dX0_latesThatFit_0 : decode cX0_latesThatFit 0 = .ok (.aload_n 0, 1) := by decide +kernel
theorem dX0_latesThatFit_1 : decode cX0_latesThatFit 1 = .ok (.invokevirtual 72, 3) := by decide +kernel
theorem dX0_latesThatFit_4 : decode cX0_latesThatFit 4 = .ok (.iconst 0, 1) := by decide +kernel
theorem dX0_latesThatFit_5 : decode cX0_latesThatFit 5 = .ok (.istore_n 3, 1) := by decide +kernel
theorem dX0_latesThatFit_6 : decode cX0_latesThatFit 6 = .ok (.iconst 0, 1) := by decide +kernel
theorem dX0_latesThatFit_7 : decode cX0_latesThatFit 7 = .ok (.istore 4, 2) := by decide +kernel
theorem dX0_latesThatFit_9 : decode cX0_latesThatFit 9 = .ok (.iload 4, 2) := by decide +kernel
theorem dX0_latesThatFit_11 : decode cX0_latesThatFit 11 = .ok (.iconst 5, 1) := by decide +kernel
theorem dX0_latesThatFit_12 : decode cX0_latesThatFit 12 = .ok (.if_icmp .gt 32, 3) := by decide +kernel
theorem dX0_latesThatFit_15 : decode cX0_latesThatFit 15 = .ok (.aload_n 0, 1) := by decide +kernel
theorem dX0_latesThatFit_16 : decode cX0_latesThatFit 16 = .ok (.getfield 9, 3) := by decide +kernel
theorem dX0_latesThatFit_19 : decode cX0_latesThatFit 19 = .ok (.iload_n 1, 1) := by decide +kernel
theorem dX0_latesThatFit_20 : decode cX0_latesThatFit 20 = .ok (.iload 4, 2) := by decide +kernel
theorem dX0_latesThatFit_22 : decode cX0_latesThatFit 22 = .ok (.iastore, 1) := by decide +kernel
theorem dX0_latesThatFit_23 : decode cX0_latesThatFit 23 = .ok (.aload_n 0, 1) := by decide +kernel
theorem dX0_latesThatFit_24 : decode cX0_latesThatFit 24 = .ok (.iload_n 2, 1) := by decide +kernel
theorem dX0_latesThatFit_25 : decode cX0_latesThatFit 25 = .ok (.invokevirtual 75, 3) := by decide +kernel
theorem dX0_latesThatFit_28 : decode cX0_latesThatFit 28 = .ok (.ifCond .eq 10, 3) := by decide +kernel
theorem dX0_latesThatFit_31 : decode cX0_latesThatFit 31 = .ok (.iload_n 3, 1) := by decide +kernel
theorem dX0_latesThatFit_32 : decode cX0_latesThatFit 32 = .ok (.iconst 1, 1) := by decide +kernel
theorem dX0_latesThatFit_33 : decode cX0_latesThatFit 33 = .ok (.iload 4, 2) := by decide +kernel
theorem dX0_latesThatFit_35 : decode cX0_latesThatFit 35 = .ok (.ishl, 1) := by decide +kernel
theorem dX0_latesThatFit_36 : decode cX0_latesThatFit 36 = .ok (.ior, 1) := by decide +kernel
theorem dX0_latesThatFit_37 : decode cX0_latesThatFit 37 = .ok (.istore_n 3, 1) := by decide +kernel
theorem dX0_latesThatFit_38 : decode cX0_latesThatFit 38 = .ok (.iinc 4 1, 3) := by decide +kernel
theorem dX0_latesThatFit_41 : decode cX0_latesThatFit 41 = .ok (.goto (-32), 3) := by decide +kernel
theorem dX0_latesThatFit_44 : decode cX0_latesThatFit 44 = .ok (.iload_n 3, 1) := by decide +kernel
theorem dX0_latesThatFit_45 : decode cX0_latesThatFit 45 = .ok (.ireturn, 1) := by decide +kernel
set_option maxRecDepth 20000 in
theorem ggX0_allSightsHold_X0_hourAfter : GoodIn wsX0_allSightsHold wsX0_hourAfter := goodIn_r _ [10, 1, 11, 12, 13, 14, 9, 15, 16, 17, 18, 19, 20, 21, 22, 23, 24, 25, 26, 27, 28, 29, 30, 31, 32, 33, 34, 35, 36, 37, 38, 39, 40, 41, 42, 43, 44, 45, 46, 47, 48, 49, 50, 51, 52, 53, 54, 55, 56, 57, 58, 59, 60, 61, 62, 63, 64, 65, 66, 67, 68, 69, 70] (by decide +kernel) (by decide +kernel)
set_option maxRecDepth 20000 in
theorem gX0_allSightsHold_X0_hourAfter : GoodIn wsX0_allSightsHold (wsV RX0 85 RX0 yX0_hourAfter wsX0_hourAfter) := goodIn_app (goodIn_of _ (by decide +kernel)) ggX0_allSightsHold_X0_hourAfter
theorem dX0_allSightsHold_0 : decode cX0_allSightsHold 0 = .ok (.iconst 0, 1) := by decide +kernel
theorem dX0_allSightsHold_1 : decode cX0_allSightsHold 1 = .ok (.istore_n 2, 1) := by decide +kernel
theorem dX0_allSightsHold_2 : decode cX0_allSightsHold 2 = .ok (.iload_n 2, 1) := by decide +kernel
theorem dX0_allSightsHold_3 : decode cX0_allSightsHold 3 = .ok (.aload_n 0, 1) := by decide +kernel
theorem dX0_allSightsHold_4 : decode cX0_allSightsHold 4 = .ok (.getfield 21, 3) := by decide +kernel
theorem dX0_allSightsHold_7 : decode cX0_allSightsHold 7 = .ok (.getfield 79, 3) := by decide +kernel
theorem dX0_allSightsHold_10 : decode cX0_allSightsHold 10 = .ok (.if_icmp .ge 41, 3) := by decide +kernel
theorem dX0_allSightsHold_13 : decode cX0_allSightsHold 13 = .ok (.aload_n 0, 1) := by decide +kernel
theorem dX0_allSightsHold_14 : decode cX0_allSightsHold 14 = .ok (.iload_n 1, 1) := by decide +kernel
theorem dX0_allSightsHold_15 : decode cX0_allSightsHold 15 = .ok (.aload_n 0, 1) := by decide +kernel
theorem dX0_allSightsHold_16 : decode cX0_allSightsHold 16 = .ok (.getfield 21, 3) := by decide +kernel
theorem dX0_allSightsHold_19 : decode cX0_allSightsHold 19 = .ok (.getfield 82, 3) := by decide +kernel
theorem dX0_allSightsHold_22 : decode cX0_allSightsHold 22 = .ok (.iload_n 2, 1) := by decide +kernel
theorem dX0_allSightsHold_23 : decode cX0_allSightsHold 23 = .ok (.iaload, 1) := by decide +kernel
theorem dX0_allSightsHold_24 : decode cX0_allSightsHold 24 = .ok (.aload_n 0, 1) := by decide +kernel
theorem dX0_allSightsHold_25 : decode cX0_allSightsHold 25 = .ok (.getfield 9, 3) := by decide +kernel
theorem dX0_allSightsHold_28 : decode cX0_allSightsHold 28 = .ok (.invokevirtual 85, 3) := by decide +kernel
theorem dX0_allSightsHold_31 : decode cX0_allSightsHold 31 = .ok (.aload_n 0, 1) := by decide +kernel
theorem dX0_allSightsHold_32 : decode cX0_allSightsHold 32 = .ok (.getfield 21, 3) := by decide +kernel
theorem dX0_allSightsHold_35 : decode cX0_allSightsHold 35 = .ok (.getfield 89, 3) := by decide +kernel
theorem dX0_allSightsHold_38 : decode cX0_allSightsHold 38 = .ok (.iload_n 2, 1) := by decide +kernel
theorem dX0_allSightsHold_39 : decode cX0_allSightsHold 39 = .ok (.iaload, 1) := by decide +kernel
theorem dX0_allSightsHold_40 : decode cX0_allSightsHold 40 = .ok (.if_icmp .eq 5, 3) := by decide +kernel
theorem dX0_allSightsHold_43 : decode cX0_allSightsHold 43 = .ok (.iconst 0, 1) := by decide +kernel
theorem dX0_allSightsHold_44 : decode cX0_allSightsHold 44 = .ok (.ireturn, 1) := by decide +kernel
theorem dX0_allSightsHold_45 : decode cX0_allSightsHold 45 = .ok (.iinc 2 1, 3) := by decide +kernel
theorem dX0_allSightsHold_48 : decode cX0_allSightsHold 48 = .ok (.goto (-46), 3) := by decide +kernel
theorem dX0_allSightsHold_51 : decode cX0_allSightsHold 51 = .ok (.iconst 1, 1) := by decide +kernel
theorem dX0_allSightsHold_52 : decode cX0_allSightsHold 52 = .ok (.ireturn, 1) := by decide +kernel
theorem dX0_insert_0 : decode cX0_insert 0 = .ok (.iload_n 1, 1) := by decide +kernel
theorem dX0_insert_1 : decode cX0_insert 1 = .ok (.istore_n 3, 1) := by decide +kernel
theorem dX0_insert_2 : decode cX0_insert 2 = .ok (.iload_n 3, 1) := by decide +kernel
theorem dX0_insert_3 : decode cX0_insert 3 = .ok (.ifCond .le 35, 3) := by decide +kernel
theorem dX0_insert_6 : decode cX0_insert 6 = .ok (.aload_n 0, 1) := by decide +kernel
theorem dX0_insert_7 : decode cX0_insert 7 = .ok (.getfield 15, 3) := by decide +kernel
theorem dX0_insert_10 : decode cX0_insert 10 = .ok (.iload_n 3, 1) := by decide +kernel
theorem dX0_insert_11 : decode cX0_insert 11 = .ok (.iconst 1, 1) := by decide +kernel
theorem dX0_insert_12 : decode cX0_insert 12 = .ok (.isub, 1) := by decide +kernel
theorem dX0_insert_13 : decode cX0_insert 13 = .ok (.iaload, 1) := by decide +kernel
theorem dX0_insert_14 : decode cX0_insert 14 = .ok (.iload_n 2, 1) := by decide +kernel
theorem dX0_insert_15 : decode cX0_insert 15 = .ok (.if_icmp .le 23, 3) := by decide +kernel
theorem dX0_insert_18 : decode cX0_insert 18 = .ok (.aload_n 0, 1) := by decide +kernel
theorem dX0_insert_19 : decode cX0_insert 19 = .ok (.getfield 15, 3) := by decide +kernel
theorem dX0_insert_22 : decode cX0_insert 22 = .ok (.iload_n 3, 1) := by decide +kernel
theorem dX0_insert_23 : decode cX0_insert 23 = .ok (.aload_n 0, 1) := by decide +kernel
theorem dX0_insert_24 : decode cX0_insert 24 = .ok (.getfield 15, 3) := by decide +kernel
theorem dX0_insert_27 : decode cX0_insert 27 = .ok (.iload_n 3, 1) := by decide +kernel
theorem dX0_insert_28 : decode cX0_insert 28 = .ok (.iconst 1, 1) := by decide +kernel
theorem dX0_insert_29 : decode cX0_insert 29 = .ok (.isub, 1) := by decide +kernel
theorem dX0_insert_30 : decode cX0_insert 30 = .ok (.iaload, 1) := by decide +kernel
theorem dX0_insert_31 : decode cX0_insert 31 = .ok (.iastore, 1) := by decide +kernel
theorem dX0_insert_32 : decode cX0_insert 32 = .ok (.iinc 3 (-1), 3) := by decide +kernel
theorem dX0_insert_35 : decode cX0_insert 35 = .ok (.goto (-33), 3) := by decide +kernel
theorem dX0_insert_38 : decode cX0_insert 38 = .ok (.aload_n 0, 1) := by decide +kernel
theorem dX0_insert_39 : decode cX0_insert 39 = .ok (.getfield 15, 3) := by decide +kernel
theorem dX0_insert_42 : decode cX0_insert 42 = .ok (.iload_n 3, 1) := by decide +kernel
theorem dX0_insert_43 : decode cX0_insert 43 = .ok (.iload_n 2, 1) := by decide +kernel
theorem dX0_insert_44 : decode cX0_insert 44 = .ok (.iastore, 1) := by decide +kernel
theorem dX0_insert_45 : decode cX0_insert 45 = .ok (.return_, 1) := by decide +kernel
set_option maxRecDepth 20000 in
theorem ggX0_madeBy_X0_pop : GoodIn wsX0_madeBy wsX0_pop := goodIn_r _ [16, 1, 17, 28, 29, 30, 31, 32] (by decide +kernel) (by decide +kernel)
set_option maxRecDepth 20000 in
theorem gX0_madeBy_X0_pop : GoodIn wsX0_madeBy (wsV RX0 103 RX0 yX0_pop wsX0_pop) := goodIn_app (goodIn_of _ (by decide +kernel)) ggX0_madeBy_X0_pop
set_option maxRecDepth 20000 in
theorem ggX0_madeBy_X0_push : GoodIn wsX0_madeBy wsX0_push := goodIn_r _ [21, 1, 17, 28, 29, 30, 31, 32] (by decide +kernel) (by decide +kernel)
set_option maxRecDepth 20000 in
theorem gX0_madeBy_X0_push : GoodIn wsX0_madeBy (wsV RX0 107 RX0 yX0_push wsX0_push) := goodIn_app (goodIn_of _ (by decide +kernel)) ggX0_madeBy_X0_push
set_option maxRecDepth 20000 in
theorem ggX0_madeBy_X0_placeOf : GoodIn wsX0_madeBy wsX0_placeOf := goodIn_r _ [25, 26, 27, 8, 9, 6, 10, 28, 29, 30, 31, 32, 35, 36, 37, 38, 39, 40, 41, 42, 43] (by decide +kernel) (by decide +kernel)
set_option maxRecDepth 20000 in
theorem gX0_madeBy_X0_placeOf : GoodIn wsX0_madeBy (wsV RX0 111 RX0 yX0_placeOf wsX0_placeOf) := goodIn_app (goodIn_of _ (by decide +kernel)) ggX0_madeBy_X0_placeOf
theorem dX0_madeBy_0 : decode cX0_madeBy 0 = .ok (.aload_n 0, 1) := by decide +kernel
theorem dX0_madeBy_1 : decode cX0_madeBy 1 = .ok (.iconst 0, 1) := by decide +kernel
theorem dX0_madeBy_2 : decode cX0_madeBy 2 = .ok (.putfield 92, 3) := by decide +kernel
theorem dX0_madeBy_5 : decode cX0_madeBy 5 = .ok (.iconst 0, 1) := by decide +kernel
theorem dX0_madeBy_6 : decode cX0_madeBy 6 = .ok (.istore_n 3, 1) := by decide +kernel
theorem dX0_madeBy_7 : decode cX0_madeBy 7 = .ok (.aload_n 1, 1) := by decide +kernel
theorem dX0_madeBy_8 : decode cX0_madeBy 8 = .ok (.getfield 95, 3) := by decide +kernel
theorem dX0_madeBy_11 : decode cX0_madeBy 11 = .ok (.iconst 1, 1) := by decide +kernel
theorem dX0_madeBy_12 : decode cX0_madeBy 12 = .ok (.isub, 1) := by decide +kernel
theorem dX0_madeBy_13 : decode cX0_madeBy 13 = .ok (.istore 4, 2) := by decide +kernel
theorem dX0_madeBy_15 : decode cX0_madeBy 15 = .ok (.iload 4, 2) := by decide +kernel
theorem dX0_madeBy_17 : decode cX0_madeBy 17 = .ok (.ifCond .lt 243, 3) := by decide +kernel
theorem dX0_madeBy_20 : decode cX0_madeBy 20 = .ok (.aload_n 1, 1) := by decide +kernel
theorem dX0_madeBy_21 : decode cX0_madeBy 21 = .ok (.getfield 100, 3) := by decide +kernel
theorem dX0_madeBy_24 : decode cX0_madeBy 24 = .ok (.iload 4, 2) := by decide +kernel
theorem dX0_madeBy_26 : decode cX0_madeBy 26 = .ok (.iaload, 1) := by decide +kernel
theorem dX0_madeBy_27 : decode cX0_madeBy 27 = .ok (.istore 5, 2) := by decide +kernel
theorem dX0_madeBy_29 : decode cX0_madeBy 29 = .ok (.iload 5, 2) := by decide +kernel
theorem dX0_madeBy_31 : decode cX0_madeBy 31 = .ok (.lookupswitch 217 #[(43, 178), (45, 165), (47, 133), (60, 97), (62, 115), (102, 199), (104, 191), (108, 199), (109, 199), (112, 199), (126, 151)], 97) := by decide +kernel
theorem dX0_madeBy_128 : decode cX0_madeBy 128 = .ok (.aload_n 0, 1) := by decide +kernel
theorem dX0_madeBy_129 : decode cX0_madeBy 129 = .ok (.aload_n 0, 1) := by decide +kernel
theorem dX0_madeBy_130 : decode cX0_madeBy 130 = .ok (.invokevirtual 103, 3) := by decide +kernel
theorem dX0_madeBy_133 : decode cX0_madeBy 133 = .ok (.aload_n 0, 1) := by decide +kernel
theorem dX0_madeBy_134 : decode cX0_madeBy 134 = .ok (.invokevirtual 103, 3) := by decide +kernel
theorem dX0_madeBy_137 : decode cX0_madeBy 137 = .ok (.invokestatic 55, 3) := by decide +kernel
theorem dX0_madeBy_140 : decode cX0_madeBy 140 = .ok (.invokevirtual 107, 3) := by decide +kernel
theorem dX0_madeBy_143 : decode cX0_madeBy 143 = .ok (.goto 111, 3) := by decide +kernel
theorem dX0_madeBy_146 : decode cX0_madeBy 146 = .ok (.aload_n 0, 1) := by decide +kernel
theorem dX0_madeBy_147 : decode cX0_madeBy 147 = .ok (.aload_n 0, 1) := by decide +kernel
theorem dX0_madeBy_148 : decode cX0_madeBy 148 = .ok (.invokevirtual 103, 3) := by decide +kernel
theorem dX0_madeBy_151 : decode cX0_madeBy 151 = .ok (.aload_n 0, 1) := by decide +kernel
theorem dX0_madeBy_152 : decode cX0_madeBy 152 = .ok (.invokevirtual 103, 3) := by decide +kernel
theorem dX0_madeBy_155 : decode cX0_madeBy 155 = .ok (.invokestatic 61, 3) := by decide +kernel
theorem dX0_madeBy_158 : decode cX0_madeBy 158 = .ok (.invokevirtual 107, 3) := by decide +kernel
theorem dX0_madeBy_161 : decode cX0_madeBy 161 = .ok (.goto 93, 3) := by decide +kernel
theorem dX0_madeBy_164 : decode cX0_madeBy 164 = .ok (.aload_n 0, 1) := by decide +kernel
theorem dX0_madeBy_165 : decode cX0_madeBy 165 = .ok (.aload_n 0, 1) := by decide +kernel
theorem dX0_madeBy_166 : decode cX0_madeBy 166 = .ok (.invokevirtual 103, 3) := by decide +kernel
theorem dX0_madeBy_169 : decode cX0_madeBy 169 = .ok (.aload_n 0, 1) := by decide +kernel
theorem dX0_madeBy_170 : decode cX0_madeBy 170 = .ok (.invokevirtual 103, 3) := by decide +kernel
theorem dX0_madeBy_173 : decode cX0_madeBy 173 = .ok (.iadd, 1) := by decide +kernel
theorem dX0_madeBy_174 : decode cX0_madeBy 174 = .ok (.iconst 2, 1) := by decide +kernel
theorem dX0_madeBy_175 : decode cX0_madeBy 175 = .ok (.idiv, 1) := by decide +kernel
theorem dX0_madeBy_176 : decode cX0_madeBy 176 = .ok (.invokevirtual 107, 3) := by decide +kernel
theorem dX0_madeBy_179 : decode cX0_madeBy 179 = .ok (.goto 75, 3) := by decide +kernel
theorem dX0_madeBy_182 : decode cX0_madeBy 182 = .ok (.aload_n 0, 1) := by decide +kernel
theorem dX0_madeBy_183 : decode cX0_madeBy 183 = .ok (.bipush 23, 2) := by decide +kernel
theorem dX0_madeBy_185 : decode cX0_madeBy 185 = .ok (.aload_n 0, 1) := by decide +kernel
theorem dX0_madeBy_186 : decode cX0_madeBy 186 = .ok (.invokevirtual 103, 3) := by decide +kernel
theorem dX0_madeBy_189 : decode cX0_madeBy 189 = .ok (.isub, 1) := by decide +kernel
theorem dX0_madeBy_190 : decode cX0_madeBy 190 = .ok (.invokevirtual 107, 3) := by decide +kernel
theorem dX0_madeBy_193 : decode cX0_madeBy 193 = .ok (.goto 61, 3) := by decide +kernel
theorem dX0_madeBy_196 : decode cX0_madeBy 196 = .ok (.aload_n 0, 1) := by decide +kernel
theorem dX0_madeBy_197 : decode cX0_madeBy 197 = .ok (.aload_n 0, 1) := by decide +kernel
theorem dX0_madeBy_198 : decode cX0_madeBy 198 = .ok (.invokevirtual 103, 3) := by decide +kernel
theorem dX0_madeBy_201 : decode cX0_madeBy 201 = .ok (.iload_n 3, 1) := by decide +kernel
theorem dX0_madeBy_202 : decode cX0_madeBy 202 = .ok (.isub, 1) := by decide +kernel
theorem dX0_madeBy_203 : decode cX0_madeBy 203 = .ok (.invokevirtual 107, 3) := by decide +kernel
theorem dX0_madeBy_206 : decode cX0_madeBy 206 = .ok (.goto 48, 3) := by decide +kernel
theorem dX0_madeBy_209 : decode cX0_madeBy 209 = .ok (.aload_n 0, 1) := by decide +kernel
theorem dX0_madeBy_210 : decode cX0_madeBy 210 = .ok (.aload_n 0, 1) := by decide +kernel
theorem dX0_madeBy_211 : decode cX0_madeBy 211 = .ok (.invokevirtual 103, 3) := by decide +kernel
theorem dX0_madeBy_214 : decode cX0_madeBy 214 = .ok (.iload_n 3, 1) := by decide +kernel
theorem dX0_madeBy_215 : decode cX0_madeBy 215 = .ok (.iadd, 1) := by decide +kernel
theorem dX0_madeBy_216 : decode cX0_madeBy 216 = .ok (.invokevirtual 107, 3) := by decide +kernel
theorem dX0_madeBy_219 : decode cX0_madeBy 219 = .ok (.goto 35, 3) := by decide +kernel
theorem dX0_madeBy_222 : decode cX0_madeBy 222 = .ok (.aload_n 0, 1) := by decide +kernel
theorem dX0_madeBy_223 : decode cX0_madeBy 223 = .ok (.iload_n 2, 1) := by decide +kernel
theorem dX0_madeBy_224 : decode cX0_madeBy 224 = .ok (.invokevirtual 107, 3) := by decide +kernel
theorem dX0_madeBy_227 : decode cX0_madeBy 227 = .ok (.goto 27, 3) := by decide +kernel
theorem dX0_madeBy_230 : decode cX0_madeBy 230 = .ok (.aload_n 0, 1) := by decide +kernel
theorem dX0_madeBy_231 : decode cX0_madeBy 231 = .ok (.aload_n 0, 1) := by decide +kernel
theorem dX0_madeBy_232 : decode cX0_madeBy 232 = .ok (.getfield 15, 3) := by decide +kernel
theorem dX0_madeBy_235 : decode cX0_madeBy 235 = .ok (.aload_n 0, 1) := by decide +kernel
theorem dX0_madeBy_236 : decode cX0_madeBy 236 = .ok (.iload 5, 2) := by decide +kernel
theorem dX0_madeBy_238 : decode cX0_madeBy 238 = .ok (.invokevirtual 111, 3) := by decide +kernel
theorem dX0_madeBy_241 : decode cX0_madeBy 241 = .ok (.iaload, 1) := by decide +kernel
theorem dX0_madeBy_242 : decode cX0_madeBy 242 = .ok (.invokevirtual 107, 3) := by decide +kernel
theorem dX0_madeBy_245 : decode cX0_madeBy 245 = .ok (.goto 9, 3) := by decide +kernel
theorem dX0_madeBy_248 : decode cX0_madeBy 248 = .ok (.iload 5, 2) := by decide +kernel
theorem dX0_madeBy_250 : decode cX0_madeBy 250 = .ok (.bipush 48, 2) := by decide +kernel
theorem dX0_madeBy_252 : decode cX0_madeBy 252 = .ok (.isub, 1) := by decide +kernel
theorem dX0_madeBy_253 : decode cX0_madeBy 253 = .ok (.istore_n 3, 1) := by decide +kernel
theorem dX0_madeBy_254 : decode cX0_madeBy 254 = .ok (.iinc 4 (-1), 3) := by decide +kernel
theorem dX0_madeBy_257 : decode cX0_madeBy 257 = .ok (.goto (-242), 3) := by decide +kernel
theorem dX0_madeBy_260 : decode cX0_madeBy 260 = .ok (.aload_n 0, 1) := by decide +kernel
theorem dX0_madeBy_261 : decode cX0_madeBy 261 = .ok (.invokevirtual 103, 3) := by decide +kernel
theorem dX0_madeBy_264 : decode cX0_madeBy 264 = .ok (.ireturn, 1) := by decide +kernel
theorem dX0_placeOf_0 : decode cX0_placeOf 0 = .ok (.aload_n 0, 1) := by decide +kernel
theorem dX0_placeOf_1 : decode cX0_placeOf 1 = .ok (.getfield 21, 3) := by decide +kernel
theorem dX0_placeOf_4 : decode cX0_placeOf 4 = .ok (.getfield 36, 3) := by decide +kernel
theorem dX0_placeOf_7 : decode cX0_placeOf 7 = .ok (.iconst 1, 1) := by decide +kernel
theorem dX0_placeOf_8 : decode cX0_placeOf 8 = .ok (.isub, 1) := by decide +kernel
theorem dX0_placeOf_9 : decode cX0_placeOf 9 = .ok (.istore_n 2, 1) := by decide +kernel
theorem dX0_placeOf_10 : decode cX0_placeOf 10 = .ok (.iload_n 1, 1) := by decide +kernel
theorem dX0_placeOf_11 : decode cX0_placeOf 11 = .ok (.tableswitch 47 108 112 #[33, 35, 47, 47, 39], 33) := by decide +kernel
theorem dX0_placeOf_44 : decode cX0_placeOf 44 = .ok (.iload_n 2, 1) := by decide +kernel
theorem dX0_placeOf_45 : decode cX0_placeOf 45 = .ok (.ireturn, 1) := by decide +kernel
theorem dX0_placeOf_46 : decode cX0_placeOf 46 = .ok (.iload_n 2, 1) := by decide +kernel
theorem dX0_placeOf_47 : decode cX0_placeOf 47 = .ok (.iconst 2, 1) := by decide +kernel
theorem dX0_placeOf_48 : decode cX0_placeOf 48 = .ok (.idiv, 1) := by decide +kernel
theorem dX0_placeOf_49 : decode cX0_placeOf 49 = .ok (.ireturn, 1) := by decide +kernel
theorem dX0_placeOf_50 : decode cX0_placeOf 50 = .ok (.iconst 0, 1) := by decide +kernel
theorem dX0_placeOf_51 : decode cX0_placeOf 51 = .ok (.iload_n 2, 1) := by decide +kernel
theorem dX0_placeOf_52 : decode cX0_placeOf 52 = .ok (.iconst 1, 1) := by decide +kernel
theorem dX0_placeOf_53 : decode cX0_placeOf 53 = .ok (.isub, 1) := by decide +kernel
theorem dX0_placeOf_54 : decode cX0_placeOf 54 = .ok (.invokestatic 61, 3) := by decide +kernel
theorem dX0_placeOf_57 : decode cX0_placeOf 57 = .ok (.ireturn, 1) := by decide +kernel
theorem dX0_placeOf_58 : decode cX0_placeOf 58 = .ok (.iconst 0, 1) := by decide +kernel
theorem dX0_placeOf_59 : decode cX0_placeOf 59 = .ok (.ireturn, 1) := by decide +kernel
theorem dX0_push_0 : decode cX0_push 0 = .ok (.aload_n 0, 1) := by decide +kernel
theorem dX0_push_1 : decode cX0_push 1 = .ok (.getfield 92, 3) := by decide +kernel
theorem dX0_push_4 : decode cX0_push 4 = .ok (.bipush 20, 2) := by decide +kernel
theorem dX0_push_6 : decode cX0_push 6 = .ok (.if_icmp .ge 23, 3) := by decide +kernel
theorem dX0_push_9 : decode cX0_push 9 = .ok (.aload_n 0, 1) := by decide +kernel
theorem dX0_push_10 : decode cX0_push 10 = .ok (.getfield 18, 3) := by decide +kernel
theorem dX0_push_13 : decode cX0_push 13 = .ok (.aload_n 0, 1) := by decide +kernel
theorem dX0_push_14 : decode cX0_push 14 = .ok (.getfield 92, 3) := by decide +kernel
theorem dX0_push_17 : decode cX0_push 17 = .ok (.iload_n 1, 1) := by decide +kernel
theorem dX0_push_18 : decode cX0_push 18 = .ok (.iastore, 1) := by decide +kernel
theorem dX0_push_19 : decode cX0_push 19 = .ok (.aload_n 0, 1) := by decide +kernel
theorem dX0_push_20 : decode cX0_push 20 = .ok (.dup, 1) := by decide +kernel
theorem dX0_push_21 : decode cX0_push 21 = .ok (.getfield 92, 3) := by decide +kernel
theorem dX0_push_24 : decode cX0_push 24 = .ok (.iconst 1, 1) := by decide +kernel
theorem dX0_push_25 : decode cX0_push 25 = .ok (.iadd, 1) := by decide +kernel
theorem dX0_push_26 : decode cX0_push 26 = .ok (.putfield 92, 3) := by decide +kernel
theorem dX0_push_29 : decode cX0_push 29 = .ok (.return_, 1) := by decide +kernel
theorem dX0_pop_0 : decode cX0_pop 0 = .ok (.aload_n 0, 1) := by decide +kernel
theorem dX0_pop_1 : decode cX0_pop 1 = .ok (.getfield 92, 3) := by decide +kernel
theorem dX0_pop_4 : decode cX0_pop 4 = .ok (.ifCond .le 23, 3) := by decide +kernel
theorem dX0_pop_7 : decode cX0_pop 7 = .ok (.aload_n 0, 1) := by decide +kernel
theorem dX0_pop_8 : decode cX0_pop 8 = .ok (.dup, 1) := by decide +kernel
theorem dX0_pop_9 : decode cX0_pop 9 = .ok (.getfield 92, 3) := by decide +kernel
theorem dX0_pop_12 : decode cX0_pop 12 = .ok (.iconst 1, 1) := by decide +kernel
theorem dX0_pop_13 : decode cX0_pop 13 = .ok (.isub, 1) := by decide +kernel
theorem dX0_pop_14 : decode cX0_pop 14 = .ok (.putfield 92, 3) := by decide +kernel
theorem dX0_pop_17 : decode cX0_pop 17 = .ok (.aload_n 0, 1) := by decide +kernel
theorem dX0_pop_18 : decode cX0_pop 18 = .ok (.getfield 18, 3) := by decide +kernel
theorem dX0_pop_21 : decode cX0_pop 21 = .ok (.aload_n 0, 1) := by decide +kernel
theorem dX0_pop_22 : decode cX0_pop 22 = .ok (.getfield 92, 3) := by decide +kernel
theorem dX0_pop_25 : decode cX0_pop 25 = .ok (.iaload, 1) := by decide +kernel
theorem dX0_pop_26 : decode cX0_pop 26 = .ok (.ireturn, 1) := by decide +kernel
theorem dX0_pop_27 : decode cX0_pop 27 = .ok (.iconst 0, 1) := by decide +kernel
theorem dX0_pop_28 : decode cX0_pop 28 = .ok (.ireturn, 1) := by decide +kernel
theorem dX1_init_0 : decode cX1_init 0 = .ok (.aload_n 0, 1) := by decide +kernel
theorem dX1_init_1 : decode cX1_init 1 = .ok (.invokespecial 3, 3) := by decide +kernel
theorem dX1_init_4 : decode cX1_init 4 = .ok (.aload_n 0, 1) := by decide +kernel
theorem dX1_init_5 : decode cX1_init 5 = .ok (.bipush 24, 2) := by decide +kernel
theorem dX1_init_7 : decode cX1_init 7 = .ok (.newarray .long, 2) := by decide +kernel
theorem dX1_init_9 : decode cX1_init 9 = .ok (.putfield 9, 3) := by decide +kernel
theorem dX1_init_12 : decode cX1_init 12 = .ok (.aload_n 0, 1) := by decide +kernel
theorem dX1_init_13 : decode cX1_init 13 = .ok (.bipush 24, 2) := by decide +kernel
theorem dX1_init_15 : decode cX1_init 15 = .ok (.newarray .long, 2) := by decide +kernel
theorem dX1_init_17 : decode cX1_init 17 = .ok (.putfield 15, 3) := by decide +kernel
theorem dX1_init_20 : decode cX1_init 20 = .ok (.aload_n 0, 1) := by decide +kernel
theorem dX1_init_21 : decode cX1_init 21 = .ok (.aload_n 1, 1) := by decide +kernel
theorem dX1_init_22 : decode cX1_init 22 = .ok (.putfield 18, 3) := by decide +kernel
theorem dX1_init_25 : decode cX1_init 25 = .ok (.return_, 1) := by decide +kernel
set_option maxRecDepth 20000 in
theorem ggX1_rainOn_J7_fill_d0a16 : GoodIn wsX1_rainOn wsJ7_fill_d0a16 := goodIn_r _ [10] (by decide +kernel) (by decide +kernel)
set_option maxRecDepth 20000 in
theorem gX1_rainOn_J7_fill_d0a16 : GoodIn wsX1_rainOn (va_wsS RX1 22 yJ7_fill_d0a16 wsJ7_fill_d0a16) := goodIn_app (goodIn_of _ (by decide +kernel)) ggX1_rainOn_J7_fill_d0a16
set_option maxRecDepth 20000 in
theorem ggX1_rainOn_X1_rainOneWeek : GoodIn wsX1_rainOn wsX1_rainOneWeek := goodIn_r _ [15, 16, 1, 17, 18, 19, 20, 21, 22, 23, 24, 7, 8, 9, 10, 25, 26, 27, 28, 29, 30, 31, 32, 33, 34, 35, 36, 37, 38, 39, 40, 41, 42, 43, 44, 45, 46, 47, 48, 49, 50, 51, 52, 53, 54, 55, 56, 57, 58, 59, 60, 61, 62, 63, 64, 65, 66, 67, 68, 69, 74, 75, 76, 77, 78, 79, 80, 81, 82, 83, 84, 85, 86, 87, 88, 89, 90, 91, 92, 93, 94, 95, 96, 97] (by decide +kernel) (by decide +kernel)
set_option maxRecDepth 20000 in
theorem gX1_rainOn_X1_rainOneWeek : GoodIn wsX1_rainOn (wsV RX1 32 RX1 yX1_rainOneWeek wsX1_rainOneWeek) := goodIn_app (goodIn_of _ (by decide +kernel)) ggX1_rainOn_X1_rainOneWeek
set_option maxRecDepth 20000 in
theorem ggX1_rainOn_X1_cancel : GoodIn wsX1_rainOn wsX1_cancel := goodIn_r _ [73, 4, 2, 74, 75, 76, 77, 78, 79, 80, 81] (by decide +kernel) (by decide +kernel)
set_option maxRecDepth 20000 in
theorem gX1_rainOn_X1_cancel : GoodIn wsX1_rainOn (wsV RX1 43 RX1 yX1_cancel wsX1_cancel) := goodIn_app (goodIn_of _ (by decide +kernel)) ggX1_rainOn_X1_cancel
theorem dX1_rainOn_0 : decode cX1_rainOn 0 = .ok (.aload_n 0, 1) := by decide +kernel
theorem dX1_rainOn_1 : decode cX1_rainOn 1 = .ok (.getfield 9, 3) := by decide +kernel
theorem dX1_rainOn_4 : decode cX1_rainOn 4 = .ok (.lconst 0, 1) := by decide +kernel
theorem dX1_rainOn_5 : decode cX1_rainOn 5 = .ok (.invokestatic 22, 3) := by decide +kernel
theorem dX1_rainOn_8 : decode cX1_rainOn 8 = .ok (.aload_n 0, 1) := by decide +kernel
theorem dX1_rainOn_9 : decode cX1_rainOn 9 = .ok (.getfield 9, 3) := by decide +kernel
theorem dX1_rainOn_12 : decode cX1_rainOn 12 = .ok (.iload_n 1, 1) := by decide +kernel
theorem dX1_rainOn_13 : decode cX1_rainOn 13 = .ok (.lconst 1, 1) := by decide +kernel
theorem dX1_rainOn_14 : decode cX1_rainOn 14 = .ok (.lastore, 1) := by decide +kernel
theorem dX1_rainOn_15 : decode cX1_rainOn 15 = .ok (.aload_n 0, 1) := by decide +kernel
theorem dX1_rainOn_16 : decode cX1_rainOn 16 = .ok (.lconst 1, 1) := by decide +kernel
theorem dX1_rainOn_17 : decode cX1_rainOn 17 = .ok (.putfield 28, 3) := by decide +kernel
theorem dX1_rainOn_20 : decode cX1_rainOn 20 = .ok (.iconst 0, 1) := by decide +kernel
theorem dX1_rainOn_21 : decode cX1_rainOn 21 = .ok (.istore 5, 2) := by decide +kernel
theorem dX1_rainOn_23 : decode cX1_rainOn 23 = .ok (.iload 5, 2) := by decide +kernel
theorem dX1_rainOn_25 : decode cX1_rainOn 25 = .ok (.iload_n 2, 1) := by decide +kernel
theorem dX1_rainOn_26 : decode cX1_rainOn 26 = .ok (.if_icmp .ge 28, 3) := by decide +kernel
theorem dX1_rainOn_29 : decode cX1_rainOn 29 = .ok (.aload_n 0, 1) := by decide +kernel
theorem dX1_rainOn_30 : decode cX1_rainOn 30 = .ok (.iload_n 3, 1) := by decide +kernel
theorem dX1_rainOn_31 : decode cX1_rainOn 31 = .ok (.iload 4, 2) := by decide +kernel
theorem dX1_rainOn_33 : decode cX1_rainOn 33 = .ok (.invokevirtual 32, 3) := by decide +kernel
theorem dX1_rainOn_36 : decode cX1_rainOn 36 = .ok (.aload_n 0, 1) := by decide +kernel
theorem dX1_rainOn_37 : decode cX1_rainOn 37 = .ok (.dup, 1) := by decide +kernel
theorem dX1_rainOn_38 : decode cX1_rainOn 38 = .ok (.getfield 28, 3) := by decide +kernel
theorem dX1_rainOn_41 : decode cX1_rainOn 41 = .ok (.ldc2_w 36, 3) := by decide +kernel
theorem dX1_rainOn_44 : decode cX1_rainOn 44 = .ok (.lmul, 1) := by decide +kernel
theorem dX1_rainOn_45 : decode cX1_rainOn 45 = .ok (.putfield 28, 3) := by decide +kernel
theorem dX1_rainOn_48 : decode cX1_rainOn 48 = .ok (.iinc 5 1, 3) := by decide +kernel
theorem dX1_rainOn_51 : decode cX1_rainOn 51 = .ok (.goto (-28), 3) := by decide +kernel
theorem dX1_rainOn_54 : decode cX1_rainOn 54 = .ok (.aload_n 0, 1) := by decide +kernel
theorem dX1_rainOn_55 : decode cX1_rainOn 55 = .ok (.lconst 0, 1) := by decide +kernel
theorem dX1_rainOn_56 : decode cX1_rainOn 56 = .ok (.putfield 38, 3) := by decide +kernel
theorem dX1_rainOn_59 : decode cX1_rainOn 59 = .ok (.iconst 0, 1) := by decide +kernel
theorem dX1_rainOn_60 : decode cX1_rainOn 60 = .ok (.istore 5, 2) := by decide +kernel
theorem dX1_rainOn_62 : decode cX1_rainOn 62 = .ok (.iload 5, 2) := by decide +kernel
theorem dX1_rainOn_64 : decode cX1_rainOn 64 = .ok (.bipush 24, 2) := by decide +kernel
theorem dX1_rainOn_66 : decode cX1_rainOn 66 = .ok (.if_icmp .ge 29, 3) := by decide +kernel
theorem dX1_rainOn_69 : decode cX1_rainOn 69 = .ok (.aload_n 0, 1) := by decide +kernel
theorem dX1_rainOn_70 : decode cX1_rainOn 70 = .ok (.dup, 1) := by decide +kernel
theorem dX1_rainOn_71 : decode cX1_rainOn 71 = .ok (.getfield 38, 3) := by decide +kernel
theorem dX1_rainOn_74 : decode cX1_rainOn 74 = .ok (.iload 5, 2) := by decide +kernel
theorem dX1_rainOn_76 : decode cX1_rainOn 76 = .ok (.i2l, 1) := by decide +kernel
theorem dX1_rainOn_77 : decode cX1_rainOn 77 = .ok (.aload_n 0, 1) := by decide +kernel
theorem dX1_rainOn_78 : decode cX1_rainOn 78 = .ok (.getfield 9, 3) := by decide +kernel
theorem dX1_rainOn_81 : decode cX1_rainOn 81 = .ok (.iload 5, 2) := by decide +kernel
theorem dX1_rainOn_83 : decode cX1_rainOn 83 = .ok (.laload, 1) := by decide +kernel
theorem dX1_rainOn_84 : decode cX1_rainOn 84 = .ok (.lmul, 1) := by decide +kernel
theorem dX1_rainOn_85 : decode cX1_rainOn 85 = .ok (.ladd, 1) := by decide +kernel
theorem dX1_rainOn_86 : decode cX1_rainOn 86 = .ok (.putfield 38, 3) := by decide +kernel
theorem dX1_rainOn_89 : decode cX1_rainOn 89 = .ok (.iinc 5 1, 3) := by decide +kernel
theorem dX1_rainOn_92 : decode cX1_rainOn 92 = .ok (.goto (-30), 3) := by decide +kernel
theorem dX1_rainOn_95 : decode cX1_rainOn 95 = .ok (.aload_n 0, 1) := by decide +kernel
theorem dX1_rainOn_96 : decode cX1_rainOn 96 = .ok (.ldc2_w 41, 3) := by decide +kernel
theorem dX1_rainOn_99 : decode cX1_rainOn 99 = .ok (.iload_n 2, 1) := by decide +kernel
theorem dX1_rainOn_100 : decode cX1_rainOn 100 = .ok (.invokevirtual 43, 3) := by decide +kernel
theorem dX1_rainOn_103 : decode cX1_rainOn 103 = .ok (.aload_n 0, 1) := by decide +kernel
theorem dX1_rainOn_104 : decode cX1_rainOn 104 = .ok (.ldc2_w 47, 3) := by decide +kernel
theorem dX1_rainOn_107 : decode cX1_rainOn 107 = .ok (.iload_n 2, 1) := by decide +kernel
theorem dX1_rainOn_108 : decode cX1_rainOn 108 = .ok (.invokevirtual 43, 3) := by decide +kernel
theorem dX1_rainOn_111 : decode cX1_rainOn 111 = .ok (.return_, 1) := by decide +kernel
set_option maxRecDepth 20000 in
theorem ggX1_rainOneWeek_J7_fill_d0a16 : GoodIn wsX1_rainOneWeek wsJ7_fill_d0a16 := goodIn_r _ [14] (by decide +kernel) (by decide +kernel)
set_option maxRecDepth 20000 in
theorem gX1_rainOneWeek_J7_fill_d0a16 : GoodIn wsX1_rainOneWeek (va_wsS RX1 22 yJ7_fill_d0a16 wsJ7_fill_d0a16) := goodIn_app (goodIn_of _ (by decide +kernel)) ggX1_rainOneWeek_J7_fill_d0a16
set_option maxRecDepth 20000 in
theorem ggX1_rainOneWeek_X0_nextHour : GoodIn wsX1_rainOneWeek wsX0_nextHour := goodIn_r _ [19, 20, 21, 22, 23, 24, 25, 26, 27, 28, 29, 30, 31, 32, 33, 34, 35, 36, 37, 18, 38, 39, 40, 41, 42, 43, 44, 45, 46, 47, 48, 49, 50, 51, 52, 53, 54, 55, 56, 57, 58, 59, 68, 69, 70, 71, 72, 73, 74, 75, 76, 77, 78, 79, 80, 81, 82, 83] (by decide +kernel) (by decide +kernel)
set_option maxRecDepth 20000 in
theorem gX1_rainOneWeek_X0_nextHour : GoodIn wsX1_rainOneWeek (wsV RX1 65 RX0 yX0_nextHour wsX0_nextHour) := goodIn_app (goodIn_of _ (by decide +kernel)) ggX1_rainOneWeek_X0_nextHour
theorem dX1_rainOneWeek_0 : decode cX1_rainOneWeek 0 = .ok (.aload_n 0, 1) := by decide +kernel
theorem dX1_rainOneWeek_1 : decode cX1_rainOneWeek 1 = .ok (.getfield 15, 3) := by decide +kernel
theorem dX1_rainOneWeek_4 : decode cX1_rainOneWeek 4 = .ok (.lconst 0, 1) := by decide +kernel
theorem dX1_rainOneWeek_5 : decode cX1_rainOneWeek 5 = .ok (.invokestatic 22, 3) := by decide +kernel
theorem dX1_rainOneWeek_8 : decode cX1_rainOneWeek 8 = .ok (.iconst 0, 1) := by decide +kernel
theorem dX1_rainOneWeek_9 : decode cX1_rainOneWeek 9 = .ok (.istore_n 3, 1) := by decide +kernel
theorem dX1_rainOneWeek_10 : decode cX1_rainOneWeek 10 = .ok (.iload_n 3, 1) := by decide +kernel
theorem dX1_rainOneWeek_11 : decode cX1_rainOneWeek 11 = .ok (.bipush 24, 2) := by decide +kernel
theorem dX1_rainOneWeek_13 : decode cX1_rainOneWeek 13 = .ok (.if_icmp .ge 123, 3) := by decide +kernel
theorem dX1_rainOneWeek_16 : decode cX1_rainOneWeek 16 = .ok (.aload_n 0, 1) := by decide +kernel
theorem dX1_rainOneWeek_17 : decode cX1_rainOneWeek 17 = .ok (.getfield 9, 3) := by decide +kernel
theorem dX1_rainOneWeek_20 : decode cX1_rainOneWeek 20 = .ok (.iload_n 3, 1) := by decide +kernel
theorem dX1_rainOneWeek_21 : decode cX1_rainOneWeek 21 = .ok (.laload, 1) := by decide +kernel
theorem dX1_rainOneWeek_22 : decode cX1_rainOneWeek 22 = .ok (.lconst 0, 1) := by decide +kernel
theorem dX1_rainOneWeek_23 : decode cX1_rainOneWeek 23 = .ok (.lcmp, 1) := by decide +kernel
theorem dX1_rainOneWeek_24 : decode cX1_rainOneWeek 24 = .ok (.ifCond .eq 106, 3) := by decide +kernel
theorem dX1_rainOneWeek_27 : decode cX1_rainOneWeek 27 = .ok (.aload_n 0, 1) := by decide +kernel
theorem dX1_rainOneWeek_28 : decode cX1_rainOneWeek 28 = .ok (.getfield 18, 3) := by decide +kernel
theorem dX1_rainOneWeek_31 : decode cX1_rainOneWeek 31 = .ok (.aload_n 0, 1) := by decide +kernel
theorem dX1_rainOneWeek_32 : decode cX1_rainOneWeek 32 = .ok (.getfield 18, 3) := by decide +kernel
theorem dX1_rainOneWeek_35 : decode cX1_rainOneWeek 35 = .ok (.getfield 49, 3) := by decide +kernel
theorem dX1_rainOneWeek_38 : decode cX1_rainOneWeek 38 = .ok (.getfield 55, 3) := by decide +kernel
theorem dX1_rainOneWeek_41 : decode cX1_rainOneWeek 41 = .ok (.iload_n 3, 1) := by decide +kernel
theorem dX1_rainOneWeek_42 : decode cX1_rainOneWeek 42 = .ok (.aload_n 0, 1) := by decide +kernel
theorem dX1_rainOneWeek_43 : decode cX1_rainOneWeek 43 = .ok (.getfield 18, 3) := by decide +kernel
theorem dX1_rainOneWeek_46 : decode cX1_rainOneWeek 46 = .ok (.getfield 49, 3) := by decide +kernel
theorem dX1_rainOneWeek_49 : decode cX1_rainOneWeek 49 = .ok (.getfield 61, 3) := by decide +kernel
theorem dX1_rainOneWeek_52 : decode cX1_rainOneWeek 52 = .ok (.iconst 0, 1) := by decide +kernel
theorem dX1_rainOneWeek_53 : decode cX1_rainOneWeek 53 = .ok (.invokevirtual 65, 3) := by decide +kernel
theorem dX1_rainOneWeek_56 : decode cX1_rainOneWeek 56 = .ok (.istore 4, 2) := by decide +kernel
theorem dX1_rainOneWeek_58 : decode cX1_rainOneWeek 58 = .ok (.aload_n 0, 1) := by decide +kernel
theorem dX1_rainOneWeek_59 : decode cX1_rainOneWeek 59 = .ok (.getfield 18, 3) := by decide +kernel
theorem dX1_rainOneWeek_62 : decode cX1_rainOneWeek 62 = .ok (.aload_n 0, 1) := by decide +kernel
theorem dX1_rainOneWeek_63 : decode cX1_rainOneWeek 63 = .ok (.getfield 18, 3) := by decide +kernel
theorem dX1_rainOneWeek_66 : decode cX1_rainOneWeek 66 = .ok (.getfield 49, 3) := by decide +kernel
theorem dX1_rainOneWeek_69 : decode cX1_rainOneWeek 69 = .ok (.getfield 55, 3) := by decide +kernel
theorem dX1_rainOneWeek_72 : decode cX1_rainOneWeek 72 = .ok (.iload_n 3, 1) := by decide +kernel
theorem dX1_rainOneWeek_73 : decode cX1_rainOneWeek 73 = .ok (.aload_n 0, 1) := by decide +kernel
theorem dX1_rainOneWeek_74 : decode cX1_rainOneWeek 74 = .ok (.getfield 18, 3) := by decide +kernel
theorem dX1_rainOneWeek_77 : decode cX1_rainOneWeek 77 = .ok (.getfield 49, 3) := by decide +kernel
theorem dX1_rainOneWeek_80 : decode cX1_rainOneWeek 80 = .ok (.getfield 61, 3) := by decide +kernel
theorem dX1_rainOneWeek_83 : decode cX1_rainOneWeek 83 = .ok (.iload_n 2, 1) := by decide +kernel
theorem dX1_rainOneWeek_84 : decode cX1_rainOneWeek 84 = .ok (.invokevirtual 65, 3) := by decide +kernel
theorem dX1_rainOneWeek_87 : decode cX1_rainOneWeek 87 = .ok (.istore 5, 2) := by decide +kernel
theorem dX1_rainOneWeek_89 : decode cX1_rainOneWeek 89 = .ok (.aload_n 0, 1) := by decide +kernel
theorem dX1_rainOneWeek_90 : decode cX1_rainOneWeek 90 = .ok (.getfield 15, 3) := by decide +kernel
theorem dX1_rainOneWeek_93 : decode cX1_rainOneWeek 93 = .ok (.iload 4, 2) := by decide +kernel
theorem dX1_rainOneWeek_95 : decode cX1_rainOneWeek 95 = .ok (.dup2, 1) := by decide +kernel
theorem dX1_rainOneWeek_96 : decode cX1_rainOneWeek 96 = .ok (.laload, 1) := by decide +kernel
theorem dX1_rainOneWeek_97 : decode cX1_rainOneWeek 97 = .ok (.aload_n 0, 1) := by decide +kernel
theorem dX1_rainOneWeek_98 : decode cX1_rainOneWeek 98 = .ok (.getfield 9, 3) := by decide +kernel
theorem dX1_rainOneWeek_101 : decode cX1_rainOneWeek 101 = .ok (.iload_n 3, 1) := by decide +kernel
theorem dX1_rainOneWeek_102 : decode cX1_rainOneWeek 102 = .ok (.laload, 1) := by decide +kernel
theorem dX1_rainOneWeek_103 : decode cX1_rainOneWeek 103 = .ok (.bipush 10, 2) := by decide +kernel
theorem dX1_rainOneWeek_105 : decode cX1_rainOneWeek 105 = .ok (.iload_n 1, 1) := by decide +kernel
theorem dX1_rainOneWeek_106 : decode cX1_rainOneWeek 106 = .ok (.isub, 1) := by decide +kernel
theorem dX1_rainOneWeek_107 : decode cX1_rainOneWeek 107 = .ok (.i2l, 1) := by decide +kernel
theorem dX1_rainOneWeek_108 : decode cX1_rainOneWeek 108 = .ok (.lmul, 1) := by decide +kernel
theorem dX1_rainOneWeek_109 : decode cX1_rainOneWeek 109 = .ok (.ladd, 1) := by decide +kernel
theorem dX1_rainOneWeek_110 : decode cX1_rainOneWeek 110 = .ok (.lastore, 1) := by decide +kernel
theorem dX1_rainOneWeek_111 : decode cX1_rainOneWeek 111 = .ok (.aload_n 0, 1) := by decide +kernel
theorem dX1_rainOneWeek_112 : decode cX1_rainOneWeek 112 = .ok (.getfield 15, 3) := by decide +kernel
theorem dX1_rainOneWeek_115 : decode cX1_rainOneWeek 115 = .ok (.iload 5, 2) := by decide +kernel
theorem dX1_rainOneWeek_117 : decode cX1_rainOneWeek 117 = .ok (.dup2, 1) := by decide +kernel
theorem dX1_rainOneWeek_118 : decode cX1_rainOneWeek 118 = .ok (.laload, 1) := by decide +kernel
theorem dX1_rainOneWeek_119 : decode cX1_rainOneWeek 119 = .ok (.aload_n 0, 1) := by decide +kernel
theorem dX1_rainOneWeek_120 : decode cX1_rainOneWeek 120 = .ok (.getfield 9, 3) := by decide +kernel
theorem dX1_rainOneWeek_123 : decode cX1_rainOneWeek 123 = .ok (.iload_n 3, 1) := by decide +kernel
theorem dX1_rainOneWeek_124 : decode cX1_rainOneWeek 124 = .ok (.laload, 1) := by decide +kernel
theorem dX1_rainOneWeek_125 : decode cX1_rainOneWeek 125 = .ok (.iload_n 1, 1) := by decide +kernel
theorem dX1_rainOneWeek_126 : decode cX1_rainOneWeek 126 = .ok (.i2l, 1) := by decide +kernel
theorem dX1_rainOneWeek_127 : decode cX1_rainOneWeek 127 = .ok (.lmul, 1) := by decide +kernel
theorem dX1_rainOneWeek_128 : decode cX1_rainOneWeek 128 = .ok (.ladd, 1) := by decide +kernel
theorem dX1_rainOneWeek_129 : decode cX1_rainOneWeek 129 = .ok (.lastore, 1) := by decide +kernel
theorem dX1_rainOneWeek_130 : decode cX1_rainOneWeek 130 = .ok (.iinc 3 1, 3) := by decide +kernel
theorem dX1_rainOneWeek_133 : decode cX1_rainOneWeek 133 = .ok (.goto (-123), 3) := by decide +kernel
theorem dX1_rainOneWeek_136 : decode cX1_rainOneWeek 136 = .ok (.aload_n 0, 1) := by decide +kernel
theorem dX1_rainOneWeek_137 : decode cX1_rainOneWeek 137 = .ok (.getfield 15, 3) := by decide +kernel
theorem dX1_rainOneWeek_140 : decode cX1_rainOneWeek 140 = .ok (.iconst 0, 1) := by decide +kernel
theorem dX1_rainOneWeek_141 : decode cX1_rainOneWeek 141 = .ok (.aload_n 0, 1) := by decide +kernel
theorem dX1_rainOneWeek_142 : decode cX1_rainOneWeek 142 = .ok (.getfield 9, 3) := by decide +kernel
theorem dX1_rainOneWeek_145 : decode cX1_rainOneWeek 145 = .ok (.iconst 0, 1) := by decide +kernel
theorem dX1_rainOneWeek_146 : decode cX1_rainOneWeek 146 = .ok (.bipush 24, 2) := by decide +kernel
theorem dX1_rainOneWeek_148 : decode cX1_rainOneWeek 148 = .ok (.invokestatic 69, 3) := by decide +kernel
theorem dX1_rainOneWeek_151 : decode cX1_rainOneWeek 151 = .ok (.return_, 1) := by decide +kernel
theorem dX1_cancel_0 : decode cX1_cancel 0 = .ok (.lload_n 1, 1) := by decide +kernel
theorem dX1_cancel_1 : decode cX1_cancel 1 = .ok (.lconst 0, 1) := by decide +kernel
theorem dX1_cancel_2 : decode cX1_cancel 2 = .ok (.lcmp, 1) := by decide +kernel
theorem dX1_cancel_3 : decode cX1_cancel 3 = .ok (.ifCond .ne 4, 3) := by decide +kernel
theorem dX1_cancel_6 : decode cX1_cancel 6 = .ok (.return_, 1) := by decide +kernel
theorem dX1_cancel_7 : decode cX1_cancel 7 = .ok (.iconst 0, 1) := by decide +kernel
theorem dX1_cancel_8 : decode cX1_cancel 8 = .ok (.istore 4, 2) := by decide +kernel
theorem dX1_cancel_10 : decode cX1_cancel 10 = .ok (.iload 4, 2) := by decide +kernel
theorem dX1_cancel_12 : decode cX1_cancel 12 = .ok (.iload_n 3, 1) := by decide +kernel
theorem dX1_cancel_13 : decode cX1_cancel 13 = .ok (.if_icmp .ge 51, 3) := by decide +kernel
theorem dX1_cancel_16 : decode cX1_cancel 16 = .ok (.aload_n 0, 1) := by decide +kernel
theorem dX1_cancel_17 : decode cX1_cancel 17 = .ok (.getfield 38, 3) := by decide +kernel
theorem dX1_cancel_20 : decode cX1_cancel 20 = .ok (.lload_n 1, 1) := by decide +kernel
theorem dX1_cancel_21 : decode cX1_cancel 21 = .ok (.lrem, 1) := by decide +kernel
theorem dX1_cancel_22 : decode cX1_cancel 22 = .ok (.lconst 0, 1) := by decide +kernel
theorem dX1_cancel_23 : decode cX1_cancel 23 = .ok (.lcmp, 1) := by decide +kernel
theorem dX1_cancel_24 : decode cX1_cancel 24 = .ok (.ifCond .ne 34, 3) := by decide +kernel
theorem dX1_cancel_27 : decode cX1_cancel 27 = .ok (.aload_n 0, 1) := by decide +kernel
theorem dX1_cancel_28 : decode cX1_cancel 28 = .ok (.getfield 28, 3) := by decide +kernel
theorem dX1_cancel_31 : decode cX1_cancel 31 = .ok (.lload_n 1, 1) := by decide +kernel
theorem dX1_cancel_32 : decode cX1_cancel 32 = .ok (.lrem, 1) := by decide +kernel
theorem dX1_cancel_33 : decode cX1_cancel 33 = .ok (.lconst 0, 1) := by decide +kernel
theorem dX1_cancel_34 : decode cX1_cancel 34 = .ok (.lcmp, 1) := by decide +kernel
theorem dX1_cancel_35 : decode cX1_cancel 35 = .ok (.ifCond .ne 23, 3) := by decide +kernel
theorem dX1_cancel_38 : decode cX1_cancel 38 = .ok (.aload_n 0, 1) := by decide +kernel
theorem dX1_cancel_39 : decode cX1_cancel 39 = .ok (.dup, 1) := by decide +kernel
theorem dX1_cancel_40 : decode cX1_cancel 40 = .ok (.getfield 38, 3) := by decide +kernel
theorem dX1_cancel_43 : decode cX1_cancel 43 = .ok (.lload_n 1, 1) := by decide +kernel
theorem dX1_cancel_44 : decode cX1_cancel 44 = .ok (.ldiv, 1) := by decide +kernel
theorem dX1_cancel_45 : decode cX1_cancel 45 = .ok (.putfield 38, 3) := by decide +kernel
theorem dX1_cancel_48 : decode cX1_cancel 48 = .ok (.aload_n 0, 1) := by decide +kernel
theorem dX1_cancel_49 : decode cX1_cancel 49 = .ok (.dup, 1) := by decide +kernel
theorem dX1_cancel_50 : decode cX1_cancel 50 = .ok (.getfield 28, 3) := by decide +kernel
theorem dX1_cancel_53 : decode cX1_cancel 53 = .ok (.lload_n 1, 1) := by decide +kernel
theorem dX1_cancel_54 : decode cX1_cancel 54 = .ok (.ldiv, 1) := by decide +kernel
theorem dX1_cancel_55 : decode cX1_cancel 55 = .ok (.putfield 28, 3) := by decide +kernel
theorem dX1_cancel_58 : decode cX1_cancel 58 = .ok (.iinc 4 1, 3) := by decide +kernel
theorem dX1_cancel_61 : decode cX1_cancel 61 = .ok (.goto (-51), 3) := by decide +kernel
theorem dX1_cancel_64 : decode cX1_cancel 64 = .ok (.return_, 1) := by decide +kernel
set_option maxRecDepth 20000 in
theorem ggX1_drawYear_X0_nextHour : GoodIn wsX1_drawYear wsX0_nextHour := goodIn_r _ [20, 21, 22, 23, 24, 25, 14, 26, 27, 13, 15, 28, 29, 30, 31, 32, 33, 34, 35, 19, 36, 37, 38, 39, 40, 41, 42, 43, 44, 45, 46, 47, 48, 49, 50, 51, 52, 53, 54, 55, 56, 57, 66, 67, 68, 69, 70, 71, 72, 73, 74, 75, 76, 77, 78, 79, 80, 81] (by decide +kernel) (by decide +kernel)
set_option maxRecDepth 20000 in
theorem gX1_drawYear_X0_nextHour : GoodIn wsX1_drawYear (wsV RX1 65 RX0 yX0_nextHour wsX0_nextHour) := goodIn_app (goodIn_of _ (by decide +kernel)) ggX1_drawYear_X0_nextHour
theorem dX1_drawYear_0 : decode cX1_drawYear 0 = .ok (.iload_n 1, 1) := by decide +kernel
theorem dX1_drawYear_1 : decode cX1_drawYear 1 = .ok (.istore 4, 2) := by decide +kernel
theorem dX1_drawYear_3 : decode cX1_drawYear 3 = .ok (.aload_n 0, 1) := by decide +kernel
theorem dX1_drawYear_4 : decode cX1_drawYear 4 = .ok (.iload_n 3, 1) := by decide +kernel
theorem dX1_drawYear_5 : decode cX1_drawYear 5 = .ok (.putfield 75, 3) := by decide +kernel
theorem dX1_drawYear_8 : decode cX1_drawYear 8 = .ok (.aload_n 0, 1) := by decide +kernel
theorem dX1_drawYear_9 : decode cX1_drawYear 9 = .ok (.iload_n 3, 1) := by decide +kernel
theorem dX1_drawYear_10 : decode cX1_drawYear 10 = .ok (.putfield 79, 3) := by decide +kernel
theorem dX1_drawYear_13 : decode cX1_drawYear 13 = .ok (.aload_n 0, 1) := by decide +kernel
theorem dX1_drawYear_14 : decode cX1_drawYear 14 = .ok (.iconst 0, 1) := by decide +kernel
theorem dX1_drawYear_15 : decode cX1_drawYear 15 = .ok (.putfield 82, 3) := by decide +kernel
theorem dX1_drawYear_18 : decode cX1_drawYear 18 = .ok (.iconst 0, 1) := by decide +kernel
theorem dX1_drawYear_19 : decode cX1_drawYear 19 = .ok (.istore 5, 2) := by decide +kernel
theorem dX1_drawYear_21 : decode cX1_drawYear 21 = .ok (.iload 5, 2) := by decide +kernel
theorem dX1_drawYear_23 : decode cX1_drawYear 23 = .ok (.iload_n 2, 1) := by decide +kernel
theorem dX1_drawYear_24 : decode cX1_drawYear 24 = .ok (.if_icmp .ge 152, 3) := by decide +kernel
theorem dX1_drawYear_27 : decode cX1_drawYear 27 = .ok (.iconst 0, 1) := by decide +kernel
theorem dX1_drawYear_28 : decode cX1_drawYear 28 = .ok (.istore 6, 2) := by decide +kernel
theorem dX1_drawYear_30 : decode cX1_drawYear 30 = .ok (.iload 6, 2) := by decide +kernel
theorem dX1_drawYear_32 : decode cX1_drawYear 32 = .ok (.aload_n 0, 1) := by decide +kernel
theorem dX1_drawYear_33 : decode cX1_drawYear 33 = .ok (.getfield 18, 3) := by decide +kernel
theorem dX1_drawYear_36 : decode cX1_drawYear 36 = .ok (.getfield 49, 3) := by decide +kernel
theorem dX1_drawYear_39 : decode cX1_drawYear 39 = .ok (.getfield 85, 3) := by decide +kernel
theorem dX1_drawYear_42 : decode cX1_drawYear 42 = .ok (.if_icmp .ge 80, 3) := by decide +kernel
theorem dX1_drawYear_45 : decode cX1_drawYear 45 = .ok (.bipush 75, 2) := by decide +kernel
theorem dX1_drawYear_47 : decode cX1_drawYear 47 = .ok (.iload 4, 2) := by decide +kernel
theorem dX1_drawYear_49 : decode cX1_drawYear 49 = .ok (.imul, 1) := by decide +kernel
theorem dX1_drawYear_50 : decode cX1_drawYear 50 = .ok (.bipush 74, 2) := by decide +kernel
theorem dX1_drawYear_52 : decode cX1_drawYear 52 = .ok (.iadd, 1) := by decide +kernel
theorem dX1_drawYear_53 : decode cX1_drawYear 53 = .ok (.ldc 88, 2) := by decide +kernel
theorem dX1_drawYear_55 : decode cX1_drawYear 55 = .ok (.irem, 1) := by decide +kernel
theorem dX1_drawYear_56 : decode cX1_drawYear 56 = .ok (.istore 4, 2) := by decide +kernel
theorem dX1_drawYear_58 : decode cX1_drawYear 58 = .ok (.aload_n 0, 1) := by decide +kernel
theorem dX1_drawYear_59 : decode cX1_drawYear 59 = .ok (.getfield 18, 3) := by decide +kernel
theorem dX1_drawYear_62 : decode cX1_drawYear 62 = .ok (.getfield 89, 3) := by decide +kernel
theorem dX1_drawYear_65 : decode cX1_drawYear 65 = .ok (.iload 6, 2) := by decide +kernel
theorem dX1_drawYear_67 : decode cX1_drawYear 67 = .ok (.aload_n 0, 1) := by decide +kernel
theorem dX1_drawYear_68 : decode cX1_drawYear 68 = .ok (.getfield 18, 3) := by decide +kernel
theorem dX1_drawYear_71 : decode cX1_drawYear 71 = .ok (.getfield 49, 3) := by decide +kernel
theorem dX1_drawYear_74 : decode cX1_drawYear 74 = .ok (.getfield 61, 3) := by decide +kernel
theorem dX1_drawYear_77 : decode cX1_drawYear 77 = .ok (.iload 6, 2) := by decide +kernel
theorem dX1_drawYear_79 : decode cX1_drawYear 79 = .ok (.iaload, 1) := by decide +kernel
theorem dX1_drawYear_80 : decode cX1_drawYear 80 = .ok (.iload 4, 2) := by decide +kernel
theorem dX1_drawYear_82 : decode cX1_drawYear 82 = .ok (.iconst 3, 1) := by decide +kernel
theorem dX1_drawYear_83 : decode cX1_drawYear 83 = .ok (.irem, 1) := by decide +kernel
theorem dX1_drawYear_84 : decode cX1_drawYear 84 = .ok (.iadd, 1) := by decide +kernel
theorem dX1_drawYear_85 : decode cX1_drawYear 85 = .ok (.iastore, 1) := by decide +kernel
theorem dX1_drawYear_86 : decode cX1_drawYear 86 = .ok (.aload_n 0, 1) := by decide +kernel
theorem dX1_drawYear_87 : decode cX1_drawYear 87 = .ok (.dup, 1) := by decide +kernel
theorem dX1_drawYear_88 : decode cX1_drawYear 88 = .ok (.getfield 82, 3) := by decide +kernel
theorem dX1_drawYear_91 : decode cX1_drawYear 91 = .ok (.aload_n 0, 1) := by decide +kernel
theorem dX1_drawYear_92 : decode cX1_drawYear 92 = .ok (.getfield 18, 3) := by decide +kernel
theorem dX1_drawYear_95 : decode cX1_drawYear 95 = .ok (.getfield 49, 3) := by decide +kernel
theorem dX1_drawYear_98 : decode cX1_drawYear 98 = .ok (.getfield 92, 3) := by decide +kernel
theorem dX1_drawYear_101 : decode cX1_drawYear 101 = .ok (.aload_n 0, 1) := by decide +kernel
theorem dX1_drawYear_102 : decode cX1_drawYear 102 = .ok (.getfield 18, 3) := by decide +kernel
theorem dX1_drawYear_105 : decode cX1_drawYear 105 = .ok (.getfield 89, 3) := by decide +kernel
theorem dX1_drawYear_108 : decode cX1_drawYear 108 = .ok (.iload 6, 2) := by decide +kernel
theorem dX1_drawYear_110 : decode cX1_drawYear 110 = .ok (.iaload, 1) := by decide +kernel
theorem dX1_drawYear_111 : decode cX1_drawYear 111 = .ok (.imul, 1) := by decide +kernel
theorem dX1_drawYear_112 : decode cX1_drawYear 112 = .ok (.iadd, 1) := by decide +kernel
theorem dX1_drawYear_113 : decode cX1_drawYear 113 = .ok (.putfield 82, 3) := by decide +kernel
theorem dX1_drawYear_116 : decode cX1_drawYear 116 = .ok (.iinc 6 1, 3) := by decide +kernel
theorem dX1_drawYear_119 : decode cX1_drawYear 119 = .ok (.goto (-89), 3) := by decide +kernel
theorem dX1_drawYear_122 : decode cX1_drawYear 122 = .ok (.aload_n 0, 1) := by decide +kernel
theorem dX1_drawYear_123 : decode cX1_drawYear 123 = .ok (.aload_n 0, 1) := by decide +kernel
theorem dX1_drawYear_124 : decode cX1_drawYear 124 = .ok (.getfield 18, 3) := by decide +kernel
theorem dX1_drawYear_127 : decode cX1_drawYear 127 = .ok (.aload_n 0, 1) := by decide +kernel
theorem dX1_drawYear_128 : decode cX1_drawYear 128 = .ok (.getfield 18, 3) := by decide +kernel
theorem dX1_drawYear_131 : decode cX1_drawYear 131 = .ok (.getfield 49, 3) := by decide +kernel
theorem dX1_drawYear_134 : decode cX1_drawYear 134 = .ok (.getfield 55, 3) := by decide +kernel
theorem dX1_drawYear_137 : decode cX1_drawYear 137 = .ok (.aload_n 0, 1) := by decide +kernel
theorem dX1_drawYear_138 : decode cX1_drawYear 138 = .ok (.getfield 75, 3) := by decide +kernel
theorem dX1_drawYear_141 : decode cX1_drawYear 141 = .ok (.aload_n 0, 1) := by decide +kernel
theorem dX1_drawYear_142 : decode cX1_drawYear 142 = .ok (.getfield 18, 3) := by decide +kernel
theorem dX1_drawYear_145 : decode cX1_drawYear 145 = .ok (.getfield 89, 3) := by decide +kernel
theorem dX1_drawYear_148 : decode cX1_drawYear 148 = .ok (.iconst 0, 1) := by decide +kernel
theorem dX1_drawYear_149 : decode cX1_drawYear 149 = .ok (.invokevirtual 65, 3) := by decide +kernel
theorem dX1_drawYear_152 : decode cX1_drawYear 152 = .ok (.putfield 75, 3) := by decide +kernel
theorem dX1_drawYear_155 : decode cX1_drawYear 155 = .ok (.aload_n 0, 1) := by decide +kernel
theorem dX1_drawYear_156 : decode cX1_drawYear 156 = .ok (.aload_n 0, 1) := by decide +kernel
theorem dX1_drawYear_157 : decode cX1_drawYear 157 = .ok (.getfield 79, 3) := by decide +kernel
theorem dX1_drawYear_160 : decode cX1_drawYear 160 = .ok (.aload_n 0, 1) := by decide +kernel
theorem dX1_drawYear_161 : decode cX1_drawYear 161 = .ok (.getfield 75, 3) := by decide +kernel
theorem dX1_drawYear_164 : decode cX1_drawYear 164 = .ok (.invokestatic 95, 3) := by decide +kernel
theorem dX1_drawYear_167 : decode cX1_drawYear 167 = .ok (.putfield 79, 3) := by decide +kernel
theorem dX1_drawYear_170 : decode cX1_drawYear 170 = .ok (.iinc 5 1, 3) := by decide +kernel
theorem dX1_drawYear_173 : decode cX1_drawYear 173 = .ok (.goto (-152), 3) := by decide +kernel
theorem dX1_drawYear_176 : decode cX1_drawYear 176 = .ok (.return_, 1) := by decide +kernel
theorem dX2_init_0 : decode cX2_init 0 = .ok (.aload_n 0, 1) := by decide +kernel
theorem dX2_init_1 : decode cX2_init 1 = .ok (.invokespecial 3, 3) := by decide +kernel
theorem dX2_init_4 : decode cX2_init 4 = .ok (.aload_n 0, 1) := by decide +kernel
theorem dX2_init_5 : decode cX2_init 5 = .ok (.iconst 5, 1) := by decide +kernel
theorem dX2_init_6 : decode cX2_init 6 = .ok (.bipush 24, 2) := by decide +kernel
theorem dX2_init_8 : decode cX2_init 8 = .ok (.multianewarray 9 2, 4) := by decide +kernel
theorem dX2_init_12 : decode cX2_init 12 = .ok (.putfield 11, 3) := by decide +kernel
theorem dX2_init_15 : decode cX2_init 15 = .ok (.aload_n 0, 1) := by decide +kernel
theorem dX2_init_16 : decode cX2_init 16 = .ok (.iconst 4, 1) := by decide +kernel
theorem dX2_init_17 : decode cX2_init 17 = .ok (.bipush 24, 2) := by decide +kernel
theorem dX2_init_19 : decode cX2_init 19 = .ok (.multianewarray 9 2, 4) := by decide +kernel
theorem dX2_init_23 : decode cX2_init 23 = .ok (.putfield 16, 3) := by decide +kernel
theorem dX2_init_26 : decode cX2_init 26 = .ok (.aload_n 0, 1) := by decide +kernel
theorem dX2_init_27 : decode cX2_init 27 = .ok (.sipush 4096, 3) := by decide +kernel
theorem dX2_init_30 : decode cX2_init 30 = .ok (.newarray .int, 2) := by decide +kernel
theorem dX2_init_32 : decode cX2_init 32 = .ok (.putfield 19, 3) := by decide +kernel
theorem dX2_init_35 : decode cX2_init 35 = .ok (.aload_n 0, 1) := by decide +kernel
theorem dX2_init_36 : decode cX2_init 36 = .ok (.aload_n 1, 1) := by decide +kernel
theorem dX2_init_37 : decode cX2_init 37 = .ok (.putfield 23, 3) := by decide +kernel
theorem dX2_init_40 : decode cX2_init 40 = .ok (.return_, 1) := by decide +kernel
set_option maxRecDepth 20000 in
theorem ggX2_weigh_X0_tryAsTold : GoodIn wsX2_weigh wsX0_tryAsTold := goodIn_r _ [7, 8, 9, 10, 11, 12, 13, 14, 89, 90, 91, 92, 93, 94, 95, 96, 97, 98, 99, 100, 101, 102] (by decide +kernel) (by decide +kernel)
set_option maxRecDepth 20000 in
theorem gX2_weigh_X0_tryAsTold : GoodIn wsX2_weigh (wsV RX2 27 RX0 yX0_tryAsTold wsX0_tryAsTold) := goodIn_app (goodIn_of _ (by decide +kernel)) ggX2_weigh_X0_tryAsTold
set_option maxRecDepth 20000 in
theorem ggX2_weigh_J7_fill_53178 : GoodIn wsX2_weigh wsJ7_fill_53178 := goodIn_r _ [18] (by decide +kernel) (by decide +kernel)
set_option maxRecDepth 20000 in
theorem gX2_weigh_J7_fill_53178 : GoodIn wsX2_weigh (va_wsS RX2 32 yJ7_fill_53178 wsJ7_fill_53178) := goodIn_app (goodIn_of _ (by decide +kernel)) ggX2_weigh_J7_fill_53178
set_option maxRecDepth 20000 in
theorem ggX2_weigh_X2_weighHour : GoodIn wsX2_weigh wsX2_weighHour := goodIn_r _ [23, 24, 2, 25, 26, 27, 28, 22, 29, 1, 30, 31, 32, 33, 34, 35, 6, 36, 8, 37, 38, 39, 40, 41, 42, 43, 44, 45, 46, 47, 48, 49, 50, 51, 52, 53, 54, 55, 56, 57, 58, 59, 60, 61, 62, 63, 64, 65, 66, 67, 68, 69, 70, 71, 72, 73, 74, 75, 76, 77, 78, 79, 80, 81, 82, 83, 84, 85, 86, 87, 88, 89, 90, 91, 92, 93, 94, 95, 96, 97, 98, 99, 100, 101, 102, 103, 104] (by decide +kernel) (by decide +kernel)
set_option maxRecDepth 20000 in
theorem gX2_weigh_X2_weighHour : GoodIn wsX2_weigh (wsV RX2 38 RX2 yX2_weighHour wsX2_weighHour) := goodIn_app (goodIn_of _ (by decide +kernel)) ggX2_weigh_X2_weighHour
theorem dX2_weigh_0 : decode cX2_weigh 0 = .ok (.aload_n 0, 1) := by decide +kernel
theorem dX2_weigh_1 : decode cX2_weigh 1 = .ok (.getfield 23, 3) := by decide +kernel
theorem dX2_weigh_4 : decode cX2_weigh 4 = .ok (.invokevirtual 27, 3) := by decide +kernel
theorem dX2_weigh_7 : decode cX2_weigh 7 = .ok (.aload_n 0, 1) := by decide +kernel
theorem dX2_weigh_8 : decode cX2_weigh 8 = .ok (.getfield 11, 3) := by decide +kernel
theorem dX2_weigh_11 : decode cX2_weigh 11 = .ok (.iload_n 2, 1) := by decide +kernel
theorem dX2_weigh_12 : decode cX2_weigh 12 = .ok (.aaload, 1) := by decide +kernel
theorem dX2_weigh_13 : decode cX2_weigh 13 = .ok (.iconst 0, 1) := by decide +kernel
theorem dX2_weigh_14 : decode cX2_weigh 14 = .ok (.invokestatic 32, 3) := by decide +kernel
theorem dX2_weigh_17 : decode cX2_weigh 17 = .ok (.iload_n 2, 1) := by decide +kernel
theorem dX2_weigh_18 : decode cX2_weigh 18 = .ok (.iconst 1, 1) := by decide +kernel
theorem dX2_weigh_19 : decode cX2_weigh 19 = .ok (.isub, 1) := by decide +kernel
theorem dX2_weigh_20 : decode cX2_weigh 20 = .ok (.istore_n 3, 1) := by decide +kernel
theorem dX2_weigh_21 : decode cX2_weigh 21 = .ok (.iload_n 3, 1) := by decide +kernel
theorem dX2_weigh_22 : decode cX2_weigh 22 = .ok (.ifCond .lt 33, 3) := by decide +kernel
theorem dX2_weigh_25 : decode cX2_weigh 25 = .ok (.iconst 0, 1) := by decide +kernel
theorem dX2_weigh_26 : decode cX2_weigh 26 = .ok (.istore 4, 2) := by decide +kernel
theorem dX2_weigh_28 : decode cX2_weigh 28 = .ok (.iload 4, 2) := by decide +kernel
theorem dX2_weigh_30 : decode cX2_weigh 30 = .ok (.bipush 24, 2) := by decide +kernel
theorem dX2_weigh_32 : decode cX2_weigh 32 = .ok (.if_icmp .ge 17, 3) := by decide +kernel
theorem dX2_weigh_35 : decode cX2_weigh 35 = .ok (.aload_n 0, 1) := by decide +kernel
theorem dX2_weigh_36 : decode cX2_weigh 36 = .ok (.iload_n 1, 1) := by decide +kernel
theorem dX2_weigh_37 : decode cX2_weigh 37 = .ok (.iload_n 3, 1) := by decide +kernel
theorem dX2_weigh_38 : decode cX2_weigh 38 = .ok (.iload 4, 2) := by decide +kernel
theorem dX2_weigh_40 : decode cX2_weigh 40 = .ok (.invokevirtual 38, 3) := by decide +kernel
theorem dX2_weigh_43 : decode cX2_weigh 43 = .ok (.iinc 4 1, 3) := by decide +kernel
theorem dX2_weigh_46 : decode cX2_weigh 46 = .ok (.goto (-18), 3) := by decide +kernel
theorem dX2_weigh_49 : decode cX2_weigh 49 = .ok (.iinc 3 (-1), 3) := by decide +kernel
theorem dX2_weigh_52 : decode cX2_weigh 52 = .ok (.goto (-31), 3) := by decide +kernel
theorem dX2_weigh_55 : decode cX2_weigh 55 = .ok (.return_, 1) := by decide +kernel
theorem dX2_leastCost_0 : decode cX2_leastCost 0 = .ok (.aload_n 0, 1) := by decide +kernel
theorem dX2_leastCost_1 : decode cX2_leastCost 1 = .ok (.getfield 11, 3) := by decide +kernel
theorem dX2_leastCost_4 : decode cX2_leastCost 4 = .ok (.iconst 0, 1) := by decide +kernel
theorem dX2_leastCost_5 : decode cX2_leastCost 5 = .ok (.aaload, 1) := by decide +kernel
theorem dX2_leastCost_6 : decode cX2_leastCost 6 = .ok (.iload_n 1, 1) := by decide +kernel
theorem dX2_leastCost_7 : decode cX2_leastCost 7 = .ok (.iaload, 1) := by decide +kernel
theorem dX2_leastCost_8 : decode cX2_leastCost 8 = .ok (.ireturn, 1) := by decide +kernel
set_option maxRecDepth 20000 in
theorem ggX2_lateInWeek_X2_nextIf : GoodIn wsX2_lateInWeek wsX2_nextIf := goodIn_r _ [6, 7, 8, 9, 10, 11, 12, 13, 14, 15, 16, 17, 18, 19, 20, 21, 22, 23, 24, 25, 26, 27, 28, 29, 30, 31, 32, 33, 34, 35, 36, 37, 38, 39, 40, 41, 42, 43, 44, 45, 46, 47, 48, 49, 50, 51, 52, 53, 54, 55, 56, 57, 58, 59, 60, 61, 62, 63, 64, 65, 66, 67, 68, 69, 70, 71, 72, 73, 74, 75] (by decide +kernel) (by decide +kernel)
set_option maxRecDepth 20000 in
theorem gX2_lateInWeek_X2_nextIf : GoodIn wsX2_lateInWeek (wsV RX2 42 RX2 yX2_nextIf wsX2_nextIf) := goodIn_app (goodIn_of _ (by decide +kernel)) ggX2_lateInWeek_X2_nextIf
theorem dX2_lateInWeek_0 : decode cX2_lateInWeek 0 = .ok (.iload_n 2, 1) := by decide +kernel
theorem dX2_lateInWeek_1 : decode cX2_lateInWeek 1 = .ok (.istore 4, 2) := by decide +kernel
theorem dX2_lateInWeek_3 : decode cX2_lateInWeek 3 = .ok (.iconst 0, 1) := by decide +kernel
theorem dX2_lateInWeek_4 : decode cX2_lateInWeek 4 = .ok (.istore 5, 2) := by decide +kernel
theorem dX2_lateInWeek_6 : decode cX2_lateInWeek 6 = .ok (.iload 5, 2) := by decide +kernel
theorem dX2_lateInWeek_8 : decode cX2_lateInWeek 8 = .ok (.iload_n 3, 1) := by decide +kernel
theorem dX2_lateInWeek_9 : decode cX2_lateInWeek 9 = .ok (.if_icmp .ge 28, 3) := by decide +kernel
theorem dX2_lateInWeek_12 : decode cX2_lateInWeek 12 = .ok (.aload_n 0, 1) := by decide +kernel
theorem dX2_lateInWeek_13 : decode cX2_lateInWeek 13 = .ok (.iload_n 1, 1) := by decide +kernel
theorem dX2_lateInWeek_14 : decode cX2_lateInWeek 14 = .ok (.iload 4, 2) := by decide +kernel
theorem dX2_lateInWeek_16 : decode cX2_lateInWeek 16 = .ok (.aload_n 0, 1) := by decide +kernel
theorem dX2_lateInWeek_17 : decode cX2_lateInWeek 17 = .ok (.getfield 16, 3) := by decide +kernel
theorem dX2_lateInWeek_20 : decode cX2_lateInWeek 20 = .ok (.iload 5, 2) := by decide +kernel
theorem dX2_lateInWeek_22 : decode cX2_lateInWeek 22 = .ok (.aaload, 1) := by decide +kernel
theorem dX2_lateInWeek_23 : decode cX2_lateInWeek 23 = .ok (.iload 4, 2) := by decide +kernel
theorem dX2_lateInWeek_25 : decode cX2_lateInWeek 25 = .ok (.iaload, 1) := by decide +kernel
theorem dX2_lateInWeek_26 : decode cX2_lateInWeek 26 = .ok (.invokevirtual 42, 3) := by decide +kernel
theorem dX2_lateInWeek_29 : decode cX2_lateInWeek 29 = .ok (.istore 4, 2) := by decide +kernel
theorem dX2_lateInWeek_31 : decode cX2_lateInWeek 31 = .ok (.iinc 5 1, 3) := by decide +kernel
theorem dX2_lateInWeek_34 : decode cX2_lateInWeek 34 = .ok (.goto (-28), 3) := by decide +kernel
theorem dX2_lateInWeek_37 : decode cX2_lateInWeek 37 = .ok (.aload_n 0, 1) := by decide +kernel
theorem dX2_lateInWeek_38 : decode cX2_lateInWeek 38 = .ok (.getfield 16, 3) := by decide +kernel
theorem dX2_lateInWeek_41 : decode cX2_lateInWeek 41 = .ok (.iload_n 3, 1) := by decide +kernel
theorem dX2_lateInWeek_42 : decode cX2_lateInWeek 42 = .ok (.aaload, 1) := by decide +kernel
theorem dX2_lateInWeek_43 : decode cX2_lateInWeek 43 = .ok (.iload 4, 2) := by decide +kernel
theorem dX2_lateInWeek_45 : decode cX2_lateInWeek 45 = .ok (.iaload, 1) := by decide +kernel
theorem dX2_lateInWeek_46 : decode cX2_lateInWeek 46 = .ok (.ireturn, 1) := by decide +kernel
set_option maxRecDepth 20000 in
theorem ggX2_weighHour_X2_nextIf : GoodIn wsX2_weighHour wsX2_nextIf := goodIn_r _ [8, 9, 10, 11, 12, 13, 14, 15, 16, 17, 18, 19, 20, 21, 22, 23, 24, 25, 26, 27, 28, 29, 30, 31, 32, 33, 34, 35, 36, 37, 38, 39, 40, 41, 42, 43, 44, 45, 46, 47, 48, 49, 50, 51, 52, 53, 54, 55, 56, 57, 67, 68, 69, 70, 71, 72, 73, 74, 75, 76, 77, 78, 79, 80, 81, 82, 83, 84, 85, 86] (by decide +kernel) (by decide +kernel)
set_option maxRecDepth 20000 in
theorem gX2_weighHour_X2_nextIf : GoodIn wsX2_weighHour (wsV RX2 42 RX2 yX2_nextIf wsX2_nextIf) := goodIn_app (goodIn_of _ (by decide +kernel)) ggX2_weighHour_X2_nextIf
set_option maxRecDepth 20000 in
theorem ggX2_weighHour_X2_costOf : GoodIn wsX2_weighHour wsX2_costOf := goodIn_r _ [61, 9, 11, 62, 63, 64, 23, 65, 66, 67, 68, 69, 70, 71, 72, 73, 74, 75, 76, 77, 78, 79, 80, 81, 82, 83, 84] (by decide +kernel) (by decide +kernel)
set_option maxRecDepth 20000 in
theorem gX2_weighHour_X2_costOf : GoodIn wsX2_weighHour (wsV RX2 47 RX2 yX2_costOf wsX2_costOf) := goodIn_app (goodIn_of _ (by decide +kernel)) ggX2_weighHour_X2_costOf
theorem dX2_weighHour_0 : decode cX2_weighHour 0 = .ok (.ldc 46, 2) := by decide +kernel
theorem dX2_weighHour_2 : decode cX2_weighHour 2 = .ok (.istore 4, 2) := by decide +kernel
theorem dX2_weighHour_4 : decode cX2_weighHour 4 = .ok (.iconst 0, 1) := by decide +kernel
theorem dX2_weighHour_5 : decode cX2_weighHour 5 = .ok (.istore 5, 2) := by decide +kernel
theorem dX2_weighHour_7 : decode cX2_weighHour 7 = .ok (.iload 5, 2) := by decide +kernel
theorem dX2_weighHour_9 : decode cX2_weighHour 9 = .ok (.iconst 5, 1) := by decide +kernel
theorem dX2_weighHour_10 : decode cX2_weighHour 10 = .ok (.if_icmp .gt 63, 3) := by decide +kernel
theorem dX2_weighHour_13 : decode cX2_weighHour 13 = .ok (.aload_n 0, 1) := by decide +kernel
theorem dX2_weighHour_14 : decode cX2_weighHour 14 = .ok (.iload_n 1, 1) := by decide +kernel
theorem dX2_weighHour_15 : decode cX2_weighHour 15 = .ok (.iload_n 3, 1) := by decide +kernel
theorem dX2_weighHour_16 : decode cX2_weighHour 16 = .ok (.iload 5, 2) := by decide +kernel
theorem dX2_weighHour_18 : decode cX2_weighHour 18 = .ok (.invokevirtual 42, 3) := by decide +kernel
theorem dX2_weighHour_21 : decode cX2_weighHour 21 = .ok (.istore 6, 2) := by decide +kernel
theorem dX2_weighHour_23 : decode cX2_weighHour 23 = .ok (.aload_n 0, 1) := by decide +kernel
theorem dX2_weighHour_24 : decode cX2_weighHour 24 = .ok (.iload_n 1, 1) := by decide +kernel
theorem dX2_weighHour_25 : decode cX2_weighHour 25 = .ok (.iload 6, 2) := by decide +kernel
theorem dX2_weighHour_27 : decode cX2_weighHour 27 = .ok (.iload 5, 2) := by decide +kernel
theorem dX2_weighHour_29 : decode cX2_weighHour 29 = .ok (.invokevirtual 47, 3) := by decide +kernel
theorem dX2_weighHour_32 : decode cX2_weighHour 32 = .ok (.aload_n 0, 1) := by decide +kernel
theorem dX2_weighHour_33 : decode cX2_weighHour 33 = .ok (.getfield 11, 3) := by decide +kernel
theorem dX2_weighHour_36 : decode cX2_weighHour 36 = .ok (.iload_n 2, 1) := by decide +kernel
theorem dX2_weighHour_37 : decode cX2_weighHour 37 = .ok (.iconst 1, 1) := by decide +kernel
theorem dX2_weighHour_38 : decode cX2_weighHour 38 = .ok (.iadd, 1) := by decide +kernel
theorem dX2_weighHour_39 : decode cX2_weighHour 39 = .ok (.aaload, 1) := by decide +kernel
theorem dX2_weighHour_40 : decode cX2_weighHour 40 = .ok (.iload 6, 2) := by decide +kernel
theorem dX2_weighHour_42 : decode cX2_weighHour 42 = .ok (.iaload, 1) := by decide +kernel
theorem dX2_weighHour_43 : decode cX2_weighHour 43 = .ok (.iadd, 1) := by decide +kernel
theorem dX2_weighHour_44 : decode cX2_weighHour 44 = .ok (.istore 7, 2) := by decide +kernel
theorem dX2_weighHour_46 : decode cX2_weighHour 46 = .ok (.iload 7, 2) := by decide +kernel
theorem dX2_weighHour_48 : decode cX2_weighHour 48 = .ok (.iload 4, 2) := by decide +kernel
theorem dX2_weighHour_50 : decode cX2_weighHour 50 = .ok (.if_icmp .ge 17, 3) := by decide +kernel
theorem dX2_weighHour_53 : decode cX2_weighHour 53 = .ok (.iload 7, 2) := by decide +kernel
theorem dX2_weighHour_55 : decode cX2_weighHour 55 = .ok (.istore 4, 2) := by decide +kernel
theorem dX2_weighHour_57 : decode cX2_weighHour 57 = .ok (.aload_n 0, 1) := by decide +kernel
theorem dX2_weighHour_58 : decode cX2_weighHour 58 = .ok (.getfield 16, 3) := by decide +kernel
theorem dX2_weighHour_61 : decode cX2_weighHour 61 = .ok (.iload_n 2, 1) := by decide +kernel
theorem dX2_weighHour_62 : decode cX2_weighHour 62 = .ok (.aaload, 1) := by decide +kernel
theorem dX2_weighHour_63 : decode cX2_weighHour 63 = .ok (.iload_n 3, 1) := by decide +kernel
theorem dX2_weighHour_64 : decode cX2_weighHour 64 = .ok (.iload 5, 2) := by decide +kernel
theorem dX2_weighHour_66 : decode cX2_weighHour 66 = .ok (.iastore, 1) := by decide +kernel
theorem dX2_weighHour_67 : decode cX2_weighHour 67 = .ok (.iinc 5 1, 3) := by decide +kernel
theorem dX2_weighHour_70 : decode cX2_weighHour 70 = .ok (.goto (-63), 3) := by decide +kernel
theorem dX2_weighHour_73 : decode cX2_weighHour 73 = .ok (.aload_n 0, 1) := by decide +kernel
theorem dX2_weighHour_74 : decode cX2_weighHour 74 = .ok (.getfield 11, 3) := by decide +kernel
theorem dX2_weighHour_77 : decode cX2_weighHour 77 = .ok (.iload_n 2, 1) := by decide +kernel
theorem dX2_weighHour_78 : decode cX2_weighHour 78 = .ok (.aaload, 1) := by decide +kernel
theorem dX2_weighHour_79 : decode cX2_weighHour 79 = .ok (.iload_n 3, 1) := by decide +kernel
theorem dX2_weighHour_80 : decode cX2_weighHour 80 = .ok (.iload 4, 2) := by decide +kernel
theorem dX2_weighHour_82 : decode cX2_weighHour 82 = .ok (.iastore, 1) := by decide +kernel
theorem dX2_weighHour_83 : decode cX2_weighHour 83 = .ok (.return_, 1) := by decide +kernel
set_option maxRecDepth 20000 in
theorem ggX2_nextIf_X0_nextHour : GoodIn wsX2_nextIf wsX0_nextHour := goodIn_r _ [9, 10, 11, 12, 13, 14, 15, 16, 17, 18, 19, 20, 21, 22, 23, 24, 25, 26, 27, 8, 28, 29, 30, 31, 32, 33, 34, 35, 36, 37, 38, 39, 40, 41, 42, 43, 44, 45, 46, 47, 48, 49, 54, 55, 56, 57, 58, 59, 60, 61, 62, 63, 64, 65, 66, 67, 68, 69] (by decide +kernel) (by decide +kernel)
set_option maxRecDepth 20000 in
theorem gX2_nextIf_X0_nextHour : GoodIn wsX2_nextIf (wsV RX2 63 RX0 yX0_nextHour wsX0_nextHour) := goodIn_app (goodIn_of _ (by decide +kernel)) ggX2_nextIf_X0_nextHour
theorem dX2_nextIf_0 : decode cX2_nextIf 0 = .ok (.aload_n 0, 1) := by decide +kernel
theorem dX2_nextIf_1 : decode cX2_nextIf 1 = .ok (.getfield 23, 3) := by decide +kernel
theorem dX2_nextIf_4 : decode cX2_nextIf 4 = .ok (.getfield 50, 3) := by decide +kernel
theorem dX2_nextIf_7 : decode cX2_nextIf 7 = .ok (.iload_n 1, 1) := by decide +kernel
theorem dX2_nextIf_8 : decode cX2_nextIf 8 = .ok (.iload_n 3, 1) := by decide +kernel
theorem dX2_nextIf_9 : decode cX2_nextIf 9 = .ok (.iastore, 1) := by decide +kernel
theorem dX2_nextIf_10 : decode cX2_nextIf 10 = .ok (.aload_n 0, 1) := by decide +kernel
theorem dX2_nextIf_11 : decode cX2_nextIf 11 = .ok (.getfield 23, 3) := by decide +kernel
theorem dX2_nextIf_14 : decode cX2_nextIf 14 = .ok (.aload_n 0, 1) := by decide +kernel
theorem dX2_nextIf_15 : decode cX2_nextIf 15 = .ok (.getfield 23, 3) := by decide +kernel
theorem dX2_nextIf_18 : decode cX2_nextIf 18 = .ok (.getfield 53, 3) := by decide +kernel
theorem dX2_nextIf_21 : decode cX2_nextIf 21 = .ok (.getfield 57, 3) := by decide +kernel
theorem dX2_nextIf_24 : decode cX2_nextIf 24 = .ok (.iload_n 2, 1) := by decide +kernel
theorem dX2_nextIf_25 : decode cX2_nextIf 25 = .ok (.aload_n 0, 1) := by decide +kernel
theorem dX2_nextIf_26 : decode cX2_nextIf 26 = .ok (.getfield 23, 3) := by decide +kernel
theorem dX2_nextIf_29 : decode cX2_nextIf 29 = .ok (.getfield 50, 3) := by decide +kernel
theorem dX2_nextIf_32 : decode cX2_nextIf 32 = .ok (.iconst 0, 1) := by decide +kernel
theorem dX2_nextIf_33 : decode cX2_nextIf 33 = .ok (.invokevirtual 63, 3) := by decide +kernel
theorem dX2_nextIf_36 : decode cX2_nextIf 36 = .ok (.ireturn, 1) := by decide +kernel
theorem dX2_costOf_0 : decode cX2_costOf 0 = .ok (.iload_n 2, 1) := by decide +kernel
theorem dX2_costOf_1 : decode cX2_costOf 1 = .ok (.aload_n 0, 1) := by decide +kernel
theorem dX2_costOf_2 : decode cX2_costOf 2 = .ok (.getfield 23, 3) := by decide +kernel
theorem dX2_costOf_5 : decode cX2_costOf 5 = .ok (.getfield 53, 3) := by decide +kernel
theorem dX2_costOf_8 : decode cX2_costOf 8 = .ok (.getfield 67, 3) := by decide +kernel
theorem dX2_costOf_11 : decode cX2_costOf 11 = .ok (.iload_n 1, 1) := by decide +kernel
theorem dX2_costOf_12 : decode cX2_costOf 12 = .ok (.iaload, 1) := by decide +kernel
theorem dX2_costOf_13 : decode cX2_costOf 13 = .ok (.isub, 1) := by decide +kernel
theorem dX2_costOf_14 : decode cX2_costOf 14 = .ok (.invokestatic 70, 3) := by decide +kernel
theorem dX2_costOf_17 : decode cX2_costOf 17 = .ok (.aload_n 0, 1) := by decide +kernel
theorem dX2_costOf_18 : decode cX2_costOf 18 = .ok (.getfield 23, 3) := by decide +kernel
theorem dX2_costOf_21 : decode cX2_costOf 21 = .ok (.getfield 53, 3) := by decide +kernel
theorem dX2_costOf_24 : decode cX2_costOf 24 = .ok (.getfield 76, 3) := by decide +kernel
theorem dX2_costOf_27 : decode cX2_costOf 27 = .ok (.iload_n 3, 1) := by decide +kernel
theorem dX2_costOf_28 : decode cX2_costOf 28 = .ok (.imul, 1) := by decide +kernel
theorem dX2_costOf_29 : decode cX2_costOf 29 = .ok (.iadd, 1) := by decide +kernel
theorem dX2_costOf_30 : decode cX2_costOf 30 = .ok (.ireturn, 1) := by decide +kernel
set_option maxRecDepth 20000 in
theorem ggX2_tabulate_X2_restWays : GoodIn wsX2_tabulate wsX2_restWays := goodIn_r _ [11, 1, 2, 3, 12, 13, 14, 15, 66, 67, 68, 69, 70, 71, 72, 73, 74, 75, 76, 77, 78, 79, 80, 81, 82, 83] (by decide +kernel) (by decide +kernel)
set_option maxRecDepth 20000 in
theorem gX2_tabulate_X2_restWays : GoodIn wsX2_tabulate (wsV RX2 80 RX2 yX2_restWays wsX2_restWays) := goodIn_app (goodIn_of _ (by decide +kernel)) ggX2_tabulate_X2_restWays
set_option maxRecDepth 20000 in
theorem ggX2_tabulate_X2_lateIn : GoodIn wsX2_tabulate wsX2_lateIn := goodIn_r _ [19, 20, 21, 22, 10, 23, 1, 2, 3, 66, 67, 68, 69, 70, 71, 72, 73, 74, 75, 76, 77, 78, 79, 80, 81, 82, 83] (by decide +kernel) (by decide +kernel)
set_option maxRecDepth 20000 in
theorem gX2_tabulate_X2_lateIn : GoodIn wsX2_tabulate (wsV RX2 87 RX2 yX2_lateIn wsX2_lateIn) := goodIn_app (goodIn_of _ (by decide +kernel)) ggX2_tabulate_X2_lateIn
set_option maxRecDepth 20000 in
theorem ggX2_tabulate_X0_nextHour : GoodIn wsX2_tabulate wsX0_nextHour := goodIn_r _ [28, 29, 30, 31, 32, 13, 14, 15, 33, 34, 35, 36, 37, 38, 39, 40, 41, 42, 43, 27, 44, 45, 46, 47, 48, 49, 50, 51, 52, 53, 54, 55, 56, 57, 58, 59, 60, 61, 62, 63, 64, 65, 70, 71, 72, 73, 74, 75, 76, 77, 78, 79, 80, 81, 82, 83, 84, 85] (by decide +kernel) (by decide +kernel)
set_option maxRecDepth 20000 in
theorem gX2_tabulate_X0_nextHour : GoodIn wsX2_tabulate (wsV RX2 63 RX0 yX0_nextHour wsX0_nextHour) := goodIn_app (goodIn_of _ (by decide +kernel)) ggX2_tabulate_X0_nextHour
theorem dX2_tabulate_0 : decode cX2_tabulate 0 = .ok (.aload_n 0, 1) := by decide +kernel
theorem dX2_tabulate_1 : decode cX2_tabulate 1 = .ok (.invokevirtual 80, 3) := by decide +kernel
theorem dX2_tabulate_4 : decode cX2_tabulate 4 = .ok (.istore_n 2, 1) := by decide +kernel
theorem dX2_tabulate_5 : decode cX2_tabulate 5 = .ok (.iconst 0, 1) := by decide +kernel
theorem dX2_tabulate_6 : decode cX2_tabulate 6 = .ok (.istore_n 3, 1) := by decide +kernel
theorem dX2_tabulate_7 : decode cX2_tabulate 7 = .ok (.iload_n 3, 1) := by decide +kernel
theorem dX2_tabulate_8 : decode cX2_tabulate 8 = .ok (.iload_n 2, 1) := by decide +kernel
theorem dX2_tabulate_9 : decode cX2_tabulate 9 = .ok (.if_icmp .ge 82, 3) := by decide +kernel
theorem dX2_tabulate_12 : decode cX2_tabulate 12 = .ok (.iconst 0, 1) := by decide +kernel
theorem dX2_tabulate_13 : decode cX2_tabulate 13 = .ok (.istore 4, 2) := by decide +kernel
theorem dX2_tabulate_15 : decode cX2_tabulate 15 = .ok (.iload 4, 2) := by decide +kernel
theorem dX2_tabulate_17 : decode cX2_tabulate 17 = .ok (.aload_n 0, 1) := by decide +kernel
theorem dX2_tabulate_18 : decode cX2_tabulate 18 = .ok (.getfield 23, 3) := by decide +kernel
theorem dX2_tabulate_21 : decode cX2_tabulate 21 = .ok (.getfield 53, 3) := by decide +kernel
theorem dX2_tabulate_24 : decode cX2_tabulate 24 = .ok (.getfield 84, 3) := by decide +kernel
theorem dX2_tabulate_27 : decode cX2_tabulate 27 = .ok (.if_icmp .ge 26, 3) := by decide +kernel
theorem dX2_tabulate_30 : decode cX2_tabulate 30 = .ok (.aload_n 0, 1) := by decide +kernel
theorem dX2_tabulate_31 : decode cX2_tabulate 31 = .ok (.getfield 23, 3) := by decide +kernel
theorem dX2_tabulate_34 : decode cX2_tabulate 34 = .ok (.getfield 50, 3) := by decide +kernel
theorem dX2_tabulate_37 : decode cX2_tabulate 37 = .ok (.iload 4, 2) := by decide +kernel
theorem dX2_tabulate_39 : decode cX2_tabulate 39 = .ok (.aload_n 0, 1) := by decide +kernel
theorem dX2_tabulate_40 : decode cX2_tabulate 40 = .ok (.iload_n 3, 1) := by decide +kernel
theorem dX2_tabulate_41 : decode cX2_tabulate 41 = .ok (.iload 4, 2) := by decide +kernel
theorem dX2_tabulate_43 : decode cX2_tabulate 43 = .ok (.invokevirtual 87, 3) := by decide +kernel
theorem dX2_tabulate_46 : decode cX2_tabulate 46 = .ok (.iastore, 1) := by decide +kernel
theorem dX2_tabulate_47 : decode cX2_tabulate 47 = .ok (.iinc 4 1, 3) := by decide +kernel
theorem dX2_tabulate_50 : decode cX2_tabulate 50 = .ok (.goto (-35), 3) := by decide +kernel
theorem dX2_tabulate_53 : decode cX2_tabulate 53 = .ok (.aload_n 0, 1) := by decide +kernel
theorem dX2_tabulate_54 : decode cX2_tabulate 54 = .ok (.getfield 19, 3) := by decide +kernel
theorem dX2_tabulate_57 : decode cX2_tabulate 57 = .ok (.iload_n 3, 1) := by decide +kernel
theorem dX2_tabulate_58 : decode cX2_tabulate 58 = .ok (.aload_n 0, 1) := by decide +kernel
theorem dX2_tabulate_59 : decode cX2_tabulate 59 = .ok (.getfield 23, 3) := by decide +kernel
theorem dX2_tabulate_62 : decode cX2_tabulate 62 = .ok (.aload_n 0, 1) := by decide +kernel
theorem dX2_tabulate_63 : decode cX2_tabulate 63 = .ok (.getfield 23, 3) := by decide +kernel
theorem dX2_tabulate_66 : decode cX2_tabulate 66 = .ok (.getfield 53, 3) := by decide +kernel
theorem dX2_tabulate_69 : decode cX2_tabulate 69 = .ok (.getfield 57, 3) := by decide +kernel
theorem dX2_tabulate_72 : decode cX2_tabulate 72 = .ok (.iload_n 1, 1) := by decide +kernel
theorem dX2_tabulate_73 : decode cX2_tabulate 73 = .ok (.aload_n 0, 1) := by decide +kernel
theorem dX2_tabulate_74 : decode cX2_tabulate 74 = .ok (.getfield 23, 3) := by decide +kernel
theorem dX2_tabulate_77 : decode cX2_tabulate 77 = .ok (.getfield 50, 3) := by decide +kernel
theorem dX2_tabulate_80 : decode cX2_tabulate 80 = .ok (.iconst 0, 1) := by decide +kernel
theorem dX2_tabulate_81 : decode cX2_tabulate 81 = .ok (.invokevirtual 63, 3) := by decide +kernel
theorem dX2_tabulate_84 : decode cX2_tabulate 84 = .ok (.iastore, 1) := by decide +kernel
theorem dX2_tabulate_85 : decode cX2_tabulate 85 = .ok (.iinc 3 1, 3) := by decide +kernel
theorem dX2_tabulate_88 : decode cX2_tabulate 88 = .ok (.goto (-81), 3) := by decide +kernel
theorem dX2_tabulate_91 : decode cX2_tabulate 91 = .ok (.return_, 1) := by decide +kernel
set_option maxRecDepth 20000 in
theorem ggX2_restCount_X2_restWays : GoodIn wsX2_restCount wsX2_restWays := goodIn_r _ [5, 6, 7, 8, 9, 10, 11, 12, 35, 36, 37, 38, 39, 40, 41, 42, 43, 44, 45, 46, 47, 48, 49, 50, 51, 52] (by decide +kernel) (by decide +kernel)
set_option maxRecDepth 20000 in
theorem gX2_restCount_X2_restWays : GoodIn wsX2_restCount (wsV RX2 80 RX2 yX2_restWays wsX2_restWays) := goodIn_app (goodIn_of _ (by decide +kernel)) ggX2_restCount_X2_restWays
set_option maxRecDepth 20000 in
theorem ggX2_restCount_X2_isRest : GoodIn wsX2_restCount wsX2_isRest := goodIn_r _ [16, 6, 7, 8, 17, 18, 19, 20, 4, 21, 22, 23, 24, 25, 26, 27, 28, 29, 30, 31, 32, 11, 33, 34, 35, 36, 37, 38, 39, 40, 41, 42, 43, 44, 45, 46, 47, 48, 49, 50, 51, 52] (by decide +kernel) (by decide +kernel)
set_option maxRecDepth 20000 in
theorem gX2_restCount_X2_isRest : GoodIn wsX2_restCount (wsV RX2 91 RX2 yX2_isRest wsX2_isRest) := goodIn_app (goodIn_of _ (by decide +kernel)) ggX2_restCount_X2_isRest
theorem dX2_restCount_0 : decode cX2_restCount 0 = .ok (.aload_n 0, 1) := by decide +kernel
theorem dX2_restCount_1 : decode cX2_restCount 1 = .ok (.invokevirtual 80, 3) := by decide +kernel
theorem dX2_restCount_4 : decode cX2_restCount 4 = .ok (.istore_n 1, 1) := by decide +kernel
theorem dX2_restCount_5 : decode cX2_restCount 5 = .ok (.iconst 0, 1) := by decide +kernel
theorem dX2_restCount_6 : decode cX2_restCount 6 = .ok (.istore_n 2, 1) := by decide +kernel
theorem dX2_restCount_7 : decode cX2_restCount 7 = .ok (.iconst 0, 1) := by decide +kernel
theorem dX2_restCount_8 : decode cX2_restCount 8 = .ok (.istore_n 3, 1) := by decide +kernel
theorem dX2_restCount_9 : decode cX2_restCount 9 = .ok (.iload_n 3, 1) := by decide +kernel
theorem dX2_restCount_10 : decode cX2_restCount 10 = .ok (.iload_n 1, 1) := by decide +kernel
theorem dX2_restCount_11 : decode cX2_restCount 11 = .ok (.if_icmp .ge 20, 3) := by decide +kernel
theorem dX2_restCount_14 : decode cX2_restCount 14 = .ok (.aload_n 0, 1) := by decide +kernel
theorem dX2_restCount_15 : decode cX2_restCount 15 = .ok (.iload_n 3, 1) := by decide +kernel
theorem dX2_restCount_16 : decode cX2_restCount 16 = .ok (.invokevirtual 91, 3) := by decide +kernel
theorem dX2_restCount_19 : decode cX2_restCount 19 = .ok (.ifCond .eq 6, 3) := by decide +kernel
theorem dX2_restCount_22 : decode cX2_restCount 22 = .ok (.iinc 2 1, 3) := by decide +kernel
theorem dX2_restCount_25 : decode cX2_restCount 25 = .ok (.iinc 3 1, 3) := by decide +kernel
theorem dX2_restCount_28 : decode cX2_restCount 28 = .ok (.goto (-19), 3) := by decide +kernel
theorem dX2_restCount_31 : decode cX2_restCount 31 = .ok (.iload_n 2, 1) := by decide +kernel
theorem dX2_restCount_32 : decode cX2_restCount 32 = .ok (.ireturn, 1) := by decide +kernel
set_option maxRecDepth 20000 in
theorem ggX2_restAt_X2_restWays : GoodIn wsX2_restAt wsX2_restWays := goodIn_r _ [5, 6, 7, 8, 9, 10, 11, 12, 39, 40, 41, 42, 43, 44, 45, 46, 47, 48, 49, 50, 51, 52, 53, 54, 55, 56] (by decide +kernel) (by decide +kernel)
set_option maxRecDepth 20000 in
theorem gX2_restAt_X2_restWays : GoodIn wsX2_restAt (wsV RX2 80 RX2 yX2_restWays wsX2_restWays) := goodIn_app (goodIn_of _ (by decide +kernel)) ggX2_restAt_X2_restWays
set_option maxRecDepth 20000 in
theorem ggX2_restAt_X2_isRest : GoodIn wsX2_restAt wsX2_isRest := goodIn_r _ [16, 6, 7, 8, 17, 18, 19, 20, 4, 21, 22, 23, 24, 25, 26, 27, 28, 29, 30, 31, 32, 11, 33, 34, 39, 40, 41, 42, 43, 44, 45, 46, 47, 48, 49, 50, 51, 52, 53, 54, 55, 56] (by decide +kernel) (by decide +kernel)
set_option maxRecDepth 20000 in
theorem gX2_restAt_X2_isRest : GoodIn wsX2_restAt (wsV RX2 91 RX2 yX2_isRest wsX2_isRest) := goodIn_app (goodIn_of _ (by decide +kernel)) ggX2_restAt_X2_isRest
set_option maxRecDepth 20000 in
theorem ggX2_restAt_X2_digitsOf : GoodIn wsX2_restAt wsX2_digitsOf := goodIn_r _ [38, 6, 7, 8, 18, 19, 20, 4, 21, 22, 23, 24, 25, 39, 40, 41, 42, 43, 44, 45, 46, 47, 48, 49, 50, 51, 52, 53, 54, 55, 56] (by decide +kernel) (by decide +kernel)
set_option maxRecDepth 20000 in
theorem gX2_restAt_X2_digitsOf : GoodIn wsX2_restAt (wsV RX2 95 RX2 yX2_digitsOf wsX2_digitsOf) := goodIn_app (goodIn_of _ (by decide +kernel)) ggX2_restAt_X2_digitsOf
theorem dX2_restAt_0 : decode cX2_restAt 0 = .ok (.aload_n 0, 1) := by decide +kernel
theorem dX2_restAt_1 : decode cX2_restAt 1 = .ok (.invokevirtual 80, 3) := by decide +kernel
theorem dX2_restAt_4 : decode cX2_restAt 4 = .ok (.istore_n 2, 1) := by decide +kernel
theorem dX2_restAt_5 : decode cX2_restAt 5 = .ok (.iconst 0, 1) := by decide +kernel
theorem dX2_restAt_6 : decode cX2_restAt 6 = .ok (.istore_n 3, 1) := by decide +kernel
theorem dX2_restAt_7 : decode cX2_restAt 7 = .ok (.iconst 0, 1) := by decide +kernel
theorem dX2_restAt_8 : decode cX2_restAt 8 = .ok (.istore 4, 2) := by decide +kernel
theorem dX2_restAt_10 : decode cX2_restAt 10 = .ok (.iload 4, 2) := by decide +kernel
theorem dX2_restAt_12 : decode cX2_restAt 12 = .ok (.iload_n 2, 1) := by decide +kernel
theorem dX2_restAt_13 : decode cX2_restAt 13 = .ok (.if_icmp .ge 33, 3) := by decide +kernel
theorem dX2_restAt_16 : decode cX2_restAt 16 = .ok (.aload_n 0, 1) := by decide +kernel
theorem dX2_restAt_17 : decode cX2_restAt 17 = .ok (.iload 4, 2) := by decide +kernel
theorem dX2_restAt_19 : decode cX2_restAt 19 = .ok (.invokevirtual 91, 3) := by decide +kernel
theorem dX2_restAt_22 : decode cX2_restAt 22 = .ok (.ifCond .eq 18, 3) := by decide +kernel
theorem dX2_restAt_25 : decode cX2_restAt 25 = .ok (.iload_n 3, 1) := by decide +kernel
theorem dX2_restAt_26 : decode cX2_restAt 26 = .ok (.iload_n 1, 1) := by decide +kernel
theorem dX2_restAt_27 : decode cX2_restAt 27 = .ok (.if_icmp .ne 10, 3) := by decide +kernel
theorem dX2_restAt_30 : decode cX2_restAt 30 = .ok (.aload_n 0, 1) := by decide +kernel
theorem dX2_restAt_31 : decode cX2_restAt 31 = .ok (.iload 4, 2) := by decide +kernel
theorem dX2_restAt_33 : decode cX2_restAt 33 = .ok (.invokevirtual 95, 3) := by decide +kernel
theorem dX2_restAt_36 : decode cX2_restAt 36 = .ok (.ireturn, 1) := by decide +kernel
theorem dX2_restAt_37 : decode cX2_restAt 37 = .ok (.iinc 3 1, 3) := by decide +kernel
theorem dX2_restAt_40 : decode cX2_restAt 40 = .ok (.iinc 4 1, 3) := by decide +kernel
theorem dX2_restAt_43 : decode cX2_restAt 43 = .ok (.goto (-33), 3) := by decide +kernel
theorem dX2_restAt_46 : decode cX2_restAt 46 = .ok (.bipush (-6), 2) := by decide +kernel
theorem dX2_restAt_48 : decode cX2_restAt 48 = .ok (.ireturn, 1) := by decide +kernel
theorem dX2_restWays_0 : decode cX2_restWays 0 = .ok (.sipush 4096, 3) := by decide +kernel
theorem dX2_restWays_3 : decode cX2_restWays 3 = .ok (.iconst 1, 1) := by decide +kernel
theorem dX2_restWays_4 : decode cX2_restWays 4 = .ok (.iconst 2, 1) := by decide +kernel
theorem dX2_restWays_5 : decode cX2_restWays 5 = .ok (.aload_n 0, 1) := by decide +kernel
theorem dX2_restWays_6 : decode cX2_restWays 6 = .ok (.getfield 23, 3) := by decide +kernel
theorem dX2_restWays_9 : decode cX2_restWays 9 = .ok (.getfield 53, 3) := by decide +kernel
theorem dX2_restWays_12 : decode cX2_restWays 12 = .ok (.getfield 84, 3) := by decide +kernel
theorem dX2_restWays_15 : decode cX2_restWays 15 = .ok (.imul, 1) := by decide +kernel
theorem dX2_restWays_16 : decode cX2_restWays 16 = .ok (.ishl, 1) := by decide +kernel
theorem dX2_restWays_17 : decode cX2_restWays 17 = .ok (.invokestatic 98, 3) := by decide +kernel
theorem dX2_restWays_20 : decode cX2_restWays 20 = .ok (.ireturn, 1) := by decide +kernel
theorem dX2_shiftOf_0 : decode cX2_shiftOf 0 = .ok (.iconst 2, 1) := by decide +kernel
theorem dX2_shiftOf_1 : decode cX2_shiftOf 1 = .ok (.aload_n 0, 1) := by decide +kernel
theorem dX2_shiftOf_2 : decode cX2_shiftOf 2 = .ok (.getfield 23, 3) := by decide +kernel
theorem dX2_shiftOf_5 : decode cX2_shiftOf 5 = .ok (.getfield 53, 3) := by decide +kernel
theorem dX2_shiftOf_8 : decode cX2_shiftOf 8 = .ok (.getfield 84, 3) := by decide +kernel
theorem dX2_shiftOf_11 : decode cX2_shiftOf 11 = .ok (.iconst 1, 1) := by decide +kernel
theorem dX2_shiftOf_12 : decode cX2_shiftOf 12 = .ok (.isub, 1) := by decide +kernel
theorem dX2_shiftOf_13 : decode cX2_shiftOf 13 = .ok (.iload_n 1, 1) := by decide +kernel
theorem dX2_shiftOf_14 : decode cX2_shiftOf 14 = .ok (.isub, 1) := by decide +kernel
theorem dX2_shiftOf_15 : decode cX2_shiftOf 15 = .ok (.imul, 1) := by decide +kernel
theorem dX2_shiftOf_16 : decode cX2_shiftOf 16 = .ok (.ireturn, 1) := by decide +kernel
set_option maxRecDepth 20000 in
theorem ggX2_lateIn_X2_shiftOf : GoodIn wsX2_lateIn wsX2_shiftOf := goodIn_r _ [5, 6, 7, 8, 9, 10, 11, 12, 13, 14, 15, 16, 17, 18, 19, 20, 21, 22, 23, 24, 25, 26] (by decide +kernel) (by decide +kernel)
set_option maxRecDepth 20000 in
theorem gX2_lateIn_X2_shiftOf : GoodIn wsX2_lateIn (wsV RX2 101 RX2 yX2_shiftOf wsX2_shiftOf) := goodIn_app (goodIn_of _ (by decide +kernel)) ggX2_lateIn_X2_shiftOf
theorem dX2_lateIn_0 : decode cX2_lateIn 0 = .ok (.iload_n 1, 1) := by decide +kernel
theorem dX2_lateIn_1 : decode cX2_lateIn 1 = .ok (.aload_n 0, 1) := by decide +kernel
theorem dX2_lateIn_2 : decode cX2_lateIn 2 = .ok (.iload_n 2, 1) := by decide +kernel
theorem dX2_lateIn_3 : decode cX2_lateIn 3 = .ok (.invokevirtual 101, 3) := by decide +kernel
theorem dX2_lateIn_6 : decode cX2_lateIn 6 = .ok (.ishr, 1) := by decide +kernel
theorem dX2_lateIn_7 : decode cX2_lateIn 7 = .ok (.iconst 3, 1) := by decide +kernel
theorem dX2_lateIn_8 : decode cX2_lateIn 8 = .ok (.iand, 1) := by decide +kernel
theorem dX2_lateIn_9 : decode cX2_lateIn 9 = .ok (.ireturn, 1) := by decide +kernel
set_option maxRecDepth 20000 in
theorem ggX2_isRest_X2_lateIn : GoodIn wsX2_isRest wsX2_lateIn := goodIn_r _ [9, 10, 11, 12, 8, 13, 1, 2, 3, 24, 25, 26, 27, 28, 29, 30, 31, 32, 33, 34, 35, 36, 37, 38, 39, 40, 41] (by decide +kernel) (by decide +kernel)
set_option maxRecDepth 20000 in
theorem gX2_isRest_X2_lateIn : GoodIn wsX2_isRest (wsV RX2 87 RX2 yX2_lateIn wsX2_lateIn) := goodIn_app (goodIn_of _ (by decide +kernel)) ggX2_isRest_X2_lateIn
set_option maxRecDepth 20000 in
theorem ggX2_isRest_X2_shiftOf : GoodIn wsX2_isRest wsX2_shiftOf := goodIn_r _ [13, 1, 2, 3, 24, 25, 26, 27, 28, 29, 30, 31, 32, 33, 34, 35, 36, 37, 38, 39, 40, 41] (by decide +kernel) (by decide +kernel)
set_option maxRecDepth 20000 in
theorem gX2_isRest_X2_shiftOf : GoodIn wsX2_isRest (wsV RX2 101 RX2 yX2_shiftOf wsX2_shiftOf) := goodIn_app (goodIn_of _ (by decide +kernel)) ggX2_isRest_X2_shiftOf
set_option maxRecDepth 20000 in
theorem ggX2_isRest_X2_costOf : GoodIn wsX2_isRest wsX2_costOf := goodIn_r _ [17, 1, 2, 18, 19, 20, 21, 22, 23, 24, 25, 26, 27, 28, 29, 30, 31, 32, 33, 34, 35, 36, 37, 38, 39, 40, 41] (by decide +kernel) (by decide +kernel)
set_option maxRecDepth 20000 in
theorem gX2_isRest_X2_costOf : GoodIn wsX2_isRest (wsV RX2 47 RX2 yX2_costOf wsX2_costOf) := goodIn_app (goodIn_of _ (by decide +kernel)) ggX2_isRest_X2_costOf
theorem dX2_isRest_0 : decode cX2_isRest 0 = .ok (.iconst 0, 1) := by decide +kernel
theorem dX2_isRest_1 : decode cX2_isRest 1 = .ok (.istore_n 2, 1) := by decide +kernel
theorem dX2_isRest_2 : decode cX2_isRest 2 = .ok (.iload_n 2, 1) := by decide +kernel
theorem dX2_isRest_3 : decode cX2_isRest 3 = .ok (.aload_n 0, 1) := by decide +kernel
theorem dX2_isRest_4 : decode cX2_isRest 4 = .ok (.getfield 23, 3) := by decide +kernel
theorem dX2_isRest_7 : decode cX2_isRest 7 = .ok (.getfield 53, 3) := by decide +kernel
theorem dX2_isRest_10 : decode cX2_isRest 10 = .ok (.getfield 84, 3) := by decide +kernel
theorem dX2_isRest_13 : decode cX2_isRest 13 = .ok (.if_icmp .ge 90, 3) := by decide +kernel
theorem dX2_isRest_16 : decode cX2_isRest 16 = .ok (.aload_n 0, 1) := by decide +kernel
theorem dX2_isRest_17 : decode cX2_isRest 17 = .ok (.iload_n 1, 1) := by decide +kernel
theorem dX2_isRest_18 : decode cX2_isRest 18 = .ok (.iload_n 2, 1) := by decide +kernel
theorem dX2_isRest_19 : decode cX2_isRest 19 = .ok (.invokevirtual 87, 3) := by decide +kernel
theorem dX2_isRest_22 : decode cX2_isRest 22 = .ok (.istore_n 3, 1) := by decide +kernel
theorem dX2_isRest_23 : decode cX2_isRest 23 = .ok (.iload_n 1, 1) := by decide +kernel
theorem dX2_isRest_24 : decode cX2_isRest 24 = .ok (.iload_n 3, 1) := by decide +kernel
theorem dX2_isRest_25 : decode cX2_isRest 25 = .ok (.aload_n 0, 1) := by decide +kernel
theorem dX2_isRest_26 : decode cX2_isRest 26 = .ok (.iload_n 2, 1) := by decide +kernel
theorem dX2_isRest_27 : decode cX2_isRest 27 = .ok (.invokevirtual 101, 3) := by decide +kernel
theorem dX2_isRest_30 : decode cX2_isRest 30 = .ok (.ishl, 1) := by decide +kernel
theorem dX2_isRest_31 : decode cX2_isRest 31 = .ok (.isub, 1) := by decide +kernel
theorem dX2_isRest_32 : decode cX2_isRest 32 = .ok (.istore 4, 2) := by decide +kernel
theorem dX2_isRest_34 : decode cX2_isRest 34 = .ok (.aload_n 0, 1) := by decide +kernel
theorem dX2_isRest_35 : decode cX2_isRest 35 = .ok (.iload_n 2, 1) := by decide +kernel
theorem dX2_isRest_36 : decode cX2_isRest 36 = .ok (.aload_n 0, 1) := by decide +kernel
theorem dX2_isRest_37 : decode cX2_isRest 37 = .ok (.getfield 19, 3) := by decide +kernel
theorem dX2_isRest_40 : decode cX2_isRest 40 = .ok (.iload_n 1, 1) := by decide +kernel
theorem dX2_isRest_41 : decode cX2_isRest 41 = .ok (.iaload, 1) := by decide +kernel
theorem dX2_isRest_42 : decode cX2_isRest 42 = .ok (.iload_n 3, 1) := by decide +kernel
theorem dX2_isRest_43 : decode cX2_isRest 43 = .ok (.invokevirtual 47, 3) := by decide +kernel
theorem dX2_isRest_46 : decode cX2_isRest 46 = .ok (.istore 5, 2) := by decide +kernel
theorem dX2_isRest_48 : decode cX2_isRest 48 = .ok (.iconst 0, 1) := by decide +kernel
theorem dX2_isRest_49 : decode cX2_isRest 49 = .ok (.istore 6, 2) := by decide +kernel
theorem dX2_isRest_51 : decode cX2_isRest 51 = .ok (.iload 6, 2) := by decide +kernel
theorem dX2_isRest_53 : decode cX2_isRest 53 = .ok (.iconst 4, 1) := by decide +kernel
theorem dX2_isRest_54 : decode cX2_isRest 54 = .ok (.if_icmp .ge 43, 3) := by decide +kernel
theorem dX2_isRest_57 : decode cX2_isRest 57 = .ok (.aload_n 0, 1) := by decide +kernel
theorem dX2_isRest_58 : decode cX2_isRest 58 = .ok (.getfield 19, 3) := by decide +kernel
theorem dX2_isRest_61 : decode cX2_isRest 61 = .ok (.iload 4, 2) := by decide +kernel
theorem dX2_isRest_63 : decode cX2_isRest 63 = .ok (.iload 6, 2) := by decide +kernel
theorem dX2_isRest_65 : decode cX2_isRest 65 = .ok (.aload_n 0, 1) := by decide +kernel
theorem dX2_isRest_66 : decode cX2_isRest 66 = .ok (.iload_n 2, 1) := by decide +kernel
theorem dX2_isRest_67 : decode cX2_isRest 67 = .ok (.invokevirtual 101, 3) := by decide +kernel
theorem dX2_isRest_70 : decode cX2_isRest 70 = .ok (.ishl, 1) := by decide +kernel
theorem dX2_isRest_71 : decode cX2_isRest 71 = .ok (.iadd, 1) := by decide +kernel
theorem dX2_isRest_72 : decode cX2_isRest 72 = .ok (.iaload, 1) := by decide +kernel
theorem dX2_isRest_73 : decode cX2_isRest 73 = .ok (.istore 7, 2) := by decide +kernel
theorem dX2_isRest_75 : decode cX2_isRest 75 = .ok (.aload_n 0, 1) := by decide +kernel
theorem dX2_isRest_76 : decode cX2_isRest 76 = .ok (.iload_n 2, 1) := by decide +kernel
theorem dX2_isRest_77 : decode cX2_isRest 77 = .ok (.iload 7, 2) := by decide +kernel
theorem dX2_isRest_79 : decode cX2_isRest 79 = .ok (.iload 6, 2) := by decide +kernel
theorem dX2_isRest_81 : decode cX2_isRest 81 = .ok (.invokevirtual 47, 3) := by decide +kernel
theorem dX2_isRest_84 : decode cX2_isRest 84 = .ok (.iload 5, 2) := by decide +kernel
theorem dX2_isRest_86 : decode cX2_isRest 86 = .ok (.if_icmp .ge 5, 3) := by decide +kernel
theorem dX2_isRest_89 : decode cX2_isRest 89 = .ok (.iconst 0, 1) := by decide +kernel
theorem dX2_isRest_90 : decode cX2_isRest 90 = .ok (.ireturn, 1) := by decide +kernel
theorem dX2_isRest_91 : decode cX2_isRest 91 = .ok (.iinc 6 1, 3) := by decide +kernel
theorem dX2_isRest_94 : decode cX2_isRest 94 = .ok (.goto (-43), 3) := by decide +kernel
theorem dX2_isRest_97 : decode cX2_isRest 97 = .ok (.iinc 2 1, 3) := by decide +kernel
theorem dX2_isRest_100 : decode cX2_isRest 100 = .ok (.goto (-98), 3) := by decide +kernel
theorem dX2_isRest_103 : decode cX2_isRest 103 = .ok (.iconst 1, 1) := by decide +kernel
theorem dX2_isRest_104 : decode cX2_isRest 104 = .ok (.ireturn, 1) := by decide +kernel
set_option maxRecDepth 20000 in
theorem ggX2_digitsOf_X2_lateIn : GoodIn wsX2_digitsOf wsX2_lateIn := goodIn_r _ [8, 9, 10, 11, 7, 12, 1, 2, 3, 13, 14, 15, 16, 17, 18, 19, 20, 21, 22, 23, 24, 25, 26, 27, 28, 29, 30] (by decide +kernel) (by decide +kernel)
set_option maxRecDepth 20000 in
theorem gX2_digitsOf_X2_lateIn : GoodIn wsX2_digitsOf (wsV RX2 87 RX2 yX2_lateIn wsX2_lateIn) := goodIn_app (goodIn_of _ (by decide +kernel)) ggX2_digitsOf_X2_lateIn
theorem dX2_digitsOf_0 : decode cX2_digitsOf 0 = .ok (.iconst 0, 1) := by decide +kernel
theorem dX2_digitsOf_1 : decode cX2_digitsOf 1 = .ok (.istore_n 2, 1) := by decide +kernel
theorem dX2_digitsOf_2 : decode cX2_digitsOf 2 = .ok (.iconst 0, 1) := by decide +kernel
theorem dX2_digitsOf_3 : decode cX2_digitsOf 3 = .ok (.istore_n 3, 1) := by decide +kernel
theorem dX2_digitsOf_4 : decode cX2_digitsOf 4 = .ok (.iload_n 3, 1) := by decide +kernel
theorem dX2_digitsOf_5 : decode cX2_digitsOf 5 = .ok (.aload_n 0, 1) := by decide +kernel
theorem dX2_digitsOf_6 : decode cX2_digitsOf 6 = .ok (.getfield 23, 3) := by decide +kernel
theorem dX2_digitsOf_9 : decode cX2_digitsOf 9 = .ok (.getfield 53, 3) := by decide +kernel
theorem dX2_digitsOf_12 : decode cX2_digitsOf 12 = .ok (.getfield 84, 3) := by decide +kernel
theorem dX2_digitsOf_15 : decode cX2_digitsOf 15 = .ok (.if_icmp .ge 21, 3) := by decide +kernel
theorem dX2_digitsOf_18 : decode cX2_digitsOf 18 = .ok (.bipush 10, 2) := by decide +kernel
theorem dX2_digitsOf_20 : decode cX2_digitsOf 20 = .ok (.iload_n 2, 1) := by decide +kernel
theorem dX2_digitsOf_21 : decode cX2_digitsOf 21 = .ok (.imul, 1) := by decide +kernel
theorem dX2_digitsOf_22 : decode cX2_digitsOf 22 = .ok (.aload_n 0, 1) := by decide +kernel
theorem dX2_digitsOf_23 : decode cX2_digitsOf 23 = .ok (.iload_n 1, 1) := by decide +kernel
theorem dX2_digitsOf_24 : decode cX2_digitsOf 24 = .ok (.iload_n 3, 1) := by decide +kernel
theorem dX2_digitsOf_25 : decode cX2_digitsOf 25 = .ok (.invokevirtual 87, 3) := by decide +kernel
theorem dX2_digitsOf_28 : decode cX2_digitsOf 28 = .ok (.iadd, 1) := by decide +kernel
theorem dX2_digitsOf_29 : decode cX2_digitsOf 29 = .ok (.istore_n 2, 1) := by decide +kernel
theorem dX2_digitsOf_30 : decode cX2_digitsOf 30 = .ok (.iinc 3 1, 3) := by decide +kernel
theorem dX2_digitsOf_33 : decode cX2_digitsOf 33 = .ok (.goto (-29), 3) := by decide +kernel
theorem dX2_digitsOf_36 : decode cX2_digitsOf 36 = .ok (.iload_n 2, 1) := by decide +kernel
theorem dX2_digitsOf_37 : decode cX2_digitsOf 37 = .ok (.ireturn, 1) := by decide +kernel
set_option maxRecDepth 20000 in
theorem ggX2_leastMovers_J6_bitCount_0f7a4 : GoodIn wsX2_leastMovers wsJ6_bitCount_0f7a4 := goodIn_r _ [7, 8, 9, 10] (by decide +kernel) (by decide +kernel)
set_option maxRecDepth 20000 in
theorem gX2_leastMovers_J6_bitCount_0f7a4 : GoodIn wsX2_leastMovers (va_wsS RX2 104 yJ6_bitCount_0f7a4 wsJ6_bitCount_0f7a4) := goodIn_app (goodIn_of _ (by decide +kernel)) ggX2_leastMovers_J6_bitCount_0f7a4
set_option maxRecDepth 20000 in
theorem ggX2_leastMovers_X2_canMove : GoodIn wsX2_leastMovers wsX2_canMove := goodIn_r _ [15, 1, 16, 17, 18, 19, 20, 21, 22, 23, 24, 25, 26, 27, 28, 4, 5, 6, 7, 8, 9, 10, 29, 30, 31, 14, 32, 2, 3, 33, 34, 35, 36, 37, 38, 39, 40, 41, 42, 43, 44, 45, 46, 47, 48, 49, 50, 51, 52, 53, 54, 55, 56, 57, 58, 59, 60, 61, 62, 63, 64, 65, 66, 67, 68, 69, 70, 71, 72, 73, 74, 75, 76, 77, 78, 79, 80, 81, 82, 83, 84, 85, 86, 87, 88, 89, 90, 91, 92, 93, 94, 95, 96, 97, 98, 99, 100, 101] (by decide +kernel) (by decide +kernel)
set_option maxRecDepth 20000 in
theorem gX2_leastMovers_X2_canMove : GoodIn wsX2_leastMovers (wsV RX2 109 RX2 yX2_canMove wsX2_canMove) := goodIn_app (goodIn_of _ (by decide +kernel)) ggX2_leastMovers_X2_canMove
theorem dX2_leastMovers_0 : decode cX2_leastMovers 0 = .ok (.aload_n 0, 1) := by decide +kernel
theorem dX2_leastMovers_1 : decode cX2_leastMovers 1 = .ok (.getfield 23, 3) := by decide +kernel
theorem dX2_leastMovers_4 : decode cX2_leastMovers 4 = .ok (.getfield 53, 3) := by decide +kernel
theorem dX2_leastMovers_7 : decode cX2_leastMovers 7 = .ok (.getfield 84, 3) := by decide +kernel
theorem dX2_leastMovers_10 : decode cX2_leastMovers 10 = .ok (.istore 4, 2) := by decide +kernel
theorem dX2_leastMovers_12 : decode cX2_leastMovers 12 = .ok (.iconst 0, 1) := by decide +kernel
theorem dX2_leastMovers_13 : decode cX2_leastMovers 13 = .ok (.istore 5, 2) := by decide +kernel
theorem dX2_leastMovers_15 : decode cX2_leastMovers 15 = .ok (.iload 5, 2) := by decide +kernel
theorem dX2_leastMovers_17 : decode cX2_leastMovers 17 = .ok (.iload 4, 2) := by decide +kernel
theorem dX2_leastMovers_19 : decode cX2_leastMovers 19 = .ok (.if_icmp .gt 52, 3) := by decide +kernel
theorem dX2_leastMovers_22 : decode cX2_leastMovers 22 = .ok (.iconst 0, 1) := by decide +kernel
theorem dX2_leastMovers_23 : decode cX2_leastMovers 23 = .ok (.istore 6, 2) := by decide +kernel
theorem dX2_leastMovers_25 : decode cX2_leastMovers 25 = .ok (.iload 6, 2) := by decide +kernel
theorem dX2_leastMovers_27 : decode cX2_leastMovers 27 = .ok (.iconst 1, 1) := by decide +kernel
theorem dX2_leastMovers_28 : decode cX2_leastMovers 28 = .ok (.iload 4, 2) := by decide +kernel
theorem dX2_leastMovers_30 : decode cX2_leastMovers 30 = .ok (.ishl, 1) := by decide +kernel
theorem dX2_leastMovers_31 : decode cX2_leastMovers 31 = .ok (.if_icmp .ge 34, 3) := by decide +kernel
theorem dX2_leastMovers_34 : decode cX2_leastMovers 34 = .ok (.iload 6, 2) := by decide +kernel
theorem dX2_leastMovers_36 : decode cX2_leastMovers 36 = .ok (.invokestatic 104, 3) := by decide +kernel
theorem dX2_leastMovers_39 : decode cX2_leastMovers 39 = .ok (.iload 5, 2) := by decide +kernel
theorem dX2_leastMovers_41 : decode cX2_leastMovers 41 = .ok (.if_icmp .ne 18, 3) := by decide +kernel
theorem dX2_leastMovers_44 : decode cX2_leastMovers 44 = .ok (.aload_n 0, 1) := by decide +kernel
theorem dX2_leastMovers_45 : decode cX2_leastMovers 45 = .ok (.iload 6, 2) := by decide +kernel
theorem dX2_leastMovers_47 : decode cX2_leastMovers 47 = .ok (.iload_n 1, 1) := by decide +kernel
theorem dX2_leastMovers_48 : decode cX2_leastMovers 48 = .ok (.iload_n 2, 1) := by decide +kernel
theorem dX2_leastMovers_49 : decode cX2_leastMovers 49 = .ok (.iload_n 3, 1) := by decide +kernel
theorem dX2_leastMovers_50 : decode cX2_leastMovers 50 = .ok (.invokevirtual 109, 3) := by decide +kernel
theorem dX2_leastMovers_53 : decode cX2_leastMovers 53 = .ok (.ifCond .eq 6, 3) := by decide +kernel
theorem dX2_leastMovers_56 : decode cX2_leastMovers 56 = .ok (.iload 6, 2) := by decide +kernel
theorem dX2_leastMovers_58 : decode cX2_leastMovers 58 = .ok (.ireturn, 1) := by decide +kernel
theorem dX2_leastMovers_59 : decode cX2_leastMovers 59 = .ok (.iinc 6 1, 3) := by decide +kernel
theorem dX2_leastMovers_62 : decode cX2_leastMovers 62 = .ok (.goto (-37), 3) := by decide +kernel
theorem dX2_leastMovers_65 : decode cX2_leastMovers 65 = .ok (.iinc 5 1, 3) := by decide +kernel
theorem dX2_leastMovers_68 : decode cX2_leastMovers 68 = .ok (.goto (-53), 3) := by decide +kernel
theorem dX2_leastMovers_71 : decode cX2_leastMovers 71 = .ok (.bipush (-6), 2) := by decide +kernel
theorem dX2_leastMovers_73 : decode cX2_leastMovers 73 = .ok (.ireturn, 1) := by decide +kernel
set_option maxRecDepth 20000 in
theorem ggX2_canMove_X0_tryAsTold : GoodIn wsX2_canMove wsX0_tryAsTold := goodIn_r _ [7, 8, 9, 10, 11, 12, 13, 14, 82, 83, 84, 85, 86, 87, 88, 89, 90, 91, 92, 93, 94, 95] (by decide +kernel) (by decide +kernel)
set_option maxRecDepth 20000 in
theorem gX2_canMove_X0_tryAsTold : GoodIn wsX2_canMove (wsV RX2 27 RX0 yX0_tryAsTold wsX0_tryAsTold) := goodIn_app (goodIn_of _ (by decide +kernel)) ggX2_canMove_X0_tryAsTold
set_option maxRecDepth 20000 in
theorem ggX2_canMove_J6_bitCount_0f7a4 : GoodIn wsX2_canMove wsJ6_bitCount_0f7a4 := goodIn_r _ [18, 19, 20, 21] (by decide +kernel) (by decide +kernel)
set_option maxRecDepth 20000 in
theorem gX2_canMove_J6_bitCount_0f7a4 : GoodIn wsX2_canMove (va_wsS RX2 104 yJ6_bitCount_0f7a4 wsJ6_bitCount_0f7a4) := goodIn_app (goodIn_of _ (by decide +kernel)) ggX2_canMove_J6_bitCount_0f7a4
set_option maxRecDepth 20000 in
theorem ggX2_canMove_X2_tryWay : GoodIn wsX2_canMove wsX2_tryWay := goodIn_r _ [26, 1, 27, 28, 2, 29, 78, 79, 80, 81, 82, 83, 84, 85, 86, 87, 88, 89, 90, 91, 92, 93, 94, 95] (by decide +kernel) (by decide +kernel)
set_option maxRecDepth 20000 in
theorem gX2_canMove_X2_tryWay : GoodIn wsX2_canMove (wsV RX2 113 RX2 yX2_tryWay wsX2_tryWay) := goodIn_app (goodIn_of _ (by decide +kernel)) ggX2_canMove_X2_tryWay
set_option maxRecDepth 20000 in
theorem ggX2_canMove_X0_hourAfter : GoodIn wsX2_canMove wsX0_hourAfter := goodIn_r _ [33, 8, 34, 35, 36, 37, 6, 38, 39, 40, 41, 42, 43, 44, 45, 46, 47, 48, 49, 50, 51, 52, 53, 54, 55, 56, 57, 58, 59, 60, 61, 62, 63, 64, 65, 66, 67, 68, 69, 70, 71, 72, 73, 74, 75, 76, 77, 82, 83, 84, 85, 86, 87, 88, 89, 90, 91, 92, 93, 94, 95, 96, 97] (by decide +kernel) (by decide +kernel)
set_option maxRecDepth 20000 in
theorem gX2_canMove_X0_hourAfter : GoodIn wsX2_canMove (wsV RX2 117 RX0 yX0_hourAfter wsX0_hourAfter) := goodIn_app (goodIn_of _ (by decide +kernel)) ggX2_canMove_X0_hourAfter
theorem dX2_canMove_0 : decode cX2_canMove 0 = .ok (.aload_n 0, 1) := by decide +kernel
theorem dX2_canMove_1 : decode cX2_canMove 1 = .ok (.getfield 23, 3) := by decide +kernel
theorem dX2_canMove_4 : decode cX2_canMove 4 = .ok (.invokevirtual 27, 3) := by decide +kernel
theorem dX2_canMove_7 : decode cX2_canMove 7 = .ok (.iconst 1, 1) := by decide +kernel
theorem dX2_canMove_8 : decode cX2_canMove 8 = .ok (.istore 5, 2) := by decide +kernel
theorem dX2_canMove_10 : decode cX2_canMove 10 = .ok (.iconst 0, 1) := by decide +kernel
theorem dX2_canMove_11 : decode cX2_canMove 11 = .ok (.istore 6, 2) := by decide +kernel
theorem dX2_canMove_13 : decode cX2_canMove 13 = .ok (.iload 6, 2) := by decide +kernel
theorem dX2_canMove_15 : decode cX2_canMove 15 = .ok (.iload_n 1, 1) := by decide +kernel
theorem dX2_canMove_16 : decode cX2_canMove 16 = .ok (.invokestatic 104, 3) := by decide +kernel
theorem dX2_canMove_19 : decode cX2_canMove 19 = .ok (.if_icmp .ge 15, 3) := by decide +kernel
theorem dX2_canMove_22 : decode cX2_canMove 22 = .ok (.iload 5, 2) := by decide +kernel
theorem dX2_canMove_24 : decode cX2_canMove 24 = .ok (.iconst 5, 1) := by decide +kernel
theorem dX2_canMove_25 : decode cX2_canMove 25 = .ok (.imul, 1) := by decide +kernel
theorem dX2_canMove_26 : decode cX2_canMove 26 = .ok (.istore 5, 2) := by decide +kernel
theorem dX2_canMove_28 : decode cX2_canMove 28 = .ok (.iinc 6 1, 3) := by decide +kernel
theorem dX2_canMove_31 : decode cX2_canMove 31 = .ok (.goto (-18), 3) := by decide +kernel
theorem dX2_canMove_34 : decode cX2_canMove 34 = .ok (.iconst 0, 1) := by decide +kernel
theorem dX2_canMove_35 : decode cX2_canMove 35 = .ok (.istore 6, 2) := by decide +kernel
theorem dX2_canMove_37 : decode cX2_canMove 37 = .ok (.iload 6, 2) := by decide +kernel
theorem dX2_canMove_39 : decode cX2_canMove 39 = .ok (.iload 5, 2) := by decide +kernel
theorem dX2_canMove_41 : decode cX2_canMove 41 = .ok (.if_icmp .ge 59, 3) := by decide +kernel
theorem dX2_canMove_44 : decode cX2_canMove 44 = .ok (.aload_n 0, 1) := by decide +kernel
theorem dX2_canMove_45 : decode cX2_canMove 45 = .ok (.iload_n 1, 1) := by decide +kernel
theorem dX2_canMove_46 : decode cX2_canMove 46 = .ok (.iload 6, 2) := by decide +kernel
theorem dX2_canMove_48 : decode cX2_canMove 48 = .ok (.invokevirtual 113, 3) := by decide +kernel
theorem dX2_canMove_51 : decode cX2_canMove 51 = .ok (.aload_n 0, 1) := by decide +kernel
theorem dX2_canMove_52 : decode cX2_canMove 52 = .ok (.getfield 23, 3) := by decide +kernel
theorem dX2_canMove_55 : decode cX2_canMove 55 = .ok (.iload_n 2, 1) := by decide +kernel
theorem dX2_canMove_56 : decode cX2_canMove 56 = .ok (.iload_n 3, 1) := by decide +kernel
theorem dX2_canMove_57 : decode cX2_canMove 57 = .ok (.aload_n 0, 1) := by decide +kernel
theorem dX2_canMove_58 : decode cX2_canMove 58 = .ok (.getfield 23, 3) := by decide +kernel
theorem dX2_canMove_61 : decode cX2_canMove 61 = .ok (.getfield 50, 3) := by decide +kernel
theorem dX2_canMove_64 : decode cX2_canMove 64 = .ok (.invokevirtual 117, 3) := by decide +kernel
theorem dX2_canMove_67 : decode cX2_canMove 67 = .ok (.istore 7, 2) := by decide +kernel
theorem dX2_canMove_69 : decode cX2_canMove 69 = .ok (.iload 4, 2) := by decide +kernel
theorem dX2_canMove_71 : decode cX2_canMove 71 = .ok (.iload_n 2, 1) := by decide +kernel
theorem dX2_canMove_72 : decode cX2_canMove 72 = .ok (.if_icmp .ge 13, 3) := by decide +kernel
theorem dX2_canMove_75 : decode cX2_canMove 75 = .ok (.iload 7, 2) := by decide +kernel
theorem dX2_canMove_77 : decode cX2_canMove 77 = .ok (.iload 4, 2) := by decide +kernel
theorem dX2_canMove_79 : decode cX2_canMove 79 = .ok (.if_icmp .gt 15, 3) := by decide +kernel
theorem dX2_canMove_82 : decode cX2_canMove 82 = .ok (.goto 10, 3) := by decide +kernel
theorem dX2_canMove_85 : decode cX2_canMove 85 = .ok (.iload 7, 2) := by decide +kernel
theorem dX2_canMove_87 : decode cX2_canMove 87 = .ok (.iload 4, 2) := by decide +kernel
theorem dX2_canMove_89 : decode cX2_canMove 89 = .ok (.if_icmp .lt 5, 3) := by decide +kernel
theorem dX2_canMove_92 : decode cX2_canMove 92 = .ok (.iconst 1, 1) := by decide +kernel
theorem dX2_canMove_93 : decode cX2_canMove 93 = .ok (.ireturn, 1) := by decide +kernel
theorem dX2_canMove_94 : decode cX2_canMove 94 = .ok (.iinc 6 1, 3) := by decide +kernel
theorem dX2_canMove_97 : decode cX2_canMove 97 = .ok (.goto (-60), 3) := by decide +kernel
theorem dX2_canMove_100 : decode cX2_canMove 100 = .ok (.iconst 0, 1) := by decide +kernel
theorem dX2_canMove_101 : decode cX2_canMove 101 = .ok (.ireturn, 1) := by decide +kernel
theorem dX2_tryWay_0 : decode cX2_tryWay 0 = .ok (.iload_n 2, 1) := by decide +kernel
theorem dX2_tryWay_1 : decode cX2_tryWay 1 = .ok (.istore_n 3, 1) := by decide +kernel
theorem dX2_tryWay_2 : decode cX2_tryWay 2 = .ok (.iconst 0, 1) := by decide +kernel
theorem dX2_tryWay_3 : decode cX2_tryWay 3 = .ok (.istore 4, 2) := by decide +kernel
theorem dX2_tryWay_5 : decode cX2_tryWay 5 = .ok (.iload 4, 2) := by decide +kernel
theorem dX2_tryWay_7 : decode cX2_tryWay 7 = .ok (.aload_n 0, 1) := by decide +kernel
theorem dX2_tryWay_8 : decode cX2_tryWay 8 = .ok (.getfield 23, 3) := by decide +kernel
theorem dX2_tryWay_11 : decode cX2_tryWay 11 = .ok (.getfield 53, 3) := by decide +kernel
theorem dX2_tryWay_14 : decode cX2_tryWay 14 = .ok (.getfield 84, 3) := by decide +kernel
theorem dX2_tryWay_17 : decode cX2_tryWay 17 = .ok (.if_icmp .ge 64, 3) := by decide +kernel
theorem dX2_tryWay_20 : decode cX2_tryWay 20 = .ok (.iload_n 1, 1) := by decide +kernel
theorem dX2_tryWay_21 : decode cX2_tryWay 21 = .ok (.iload 4, 2) := by decide +kernel
theorem dX2_tryWay_23 : decode cX2_tryWay 23 = .ok (.ishr, 1) := by decide +kernel
theorem dX2_tryWay_24 : decode cX2_tryWay 24 = .ok (.iconst 1, 1) := by decide +kernel
theorem dX2_tryWay_25 : decode cX2_tryWay 25 = .ok (.iand, 1) := by decide +kernel
theorem dX2_tryWay_26 : decode cX2_tryWay 26 = .ok (.ifCond .eq 49, 3) := by decide +kernel
theorem dX2_tryWay_29 : decode cX2_tryWay 29 = .ok (.iload_n 3, 1) := by decide +kernel
theorem dX2_tryWay_30 : decode cX2_tryWay 30 = .ok (.iconst 5, 1) := by decide +kernel
theorem dX2_tryWay_31 : decode cX2_tryWay 31 = .ok (.irem, 1) := by decide +kernel
theorem dX2_tryWay_32 : decode cX2_tryWay 32 = .ok (.istore 5, 2) := by decide +kernel
theorem dX2_tryWay_34 : decode cX2_tryWay 34 = .ok (.iload_n 3, 1) := by decide +kernel
theorem dX2_tryWay_35 : decode cX2_tryWay 35 = .ok (.iconst 5, 1) := by decide +kernel
theorem dX2_tryWay_36 : decode cX2_tryWay 36 = .ok (.idiv, 1) := by decide +kernel
theorem dX2_tryWay_37 : decode cX2_tryWay 37 = .ok (.istore_n 3, 1) := by decide +kernel
theorem dX2_tryWay_38 : decode cX2_tryWay 38 = .ok (.aload_n 0, 1) := by decide +kernel
theorem dX2_tryWay_39 : decode cX2_tryWay 39 = .ok (.getfield 23, 3) := by decide +kernel
theorem dX2_tryWay_42 : decode cX2_tryWay 42 = .ok (.getfield 50, 3) := by decide +kernel
theorem dX2_tryWay_45 : decode cX2_tryWay 45 = .ok (.iload 4, 2) := by decide +kernel
theorem dX2_tryWay_47 : decode cX2_tryWay 47 = .ok (.iload 5, 2) := by decide +kernel
theorem dX2_tryWay_49 : decode cX2_tryWay 49 = .ok (.aload_n 0, 1) := by decide +kernel
theorem dX2_tryWay_50 : decode cX2_tryWay 50 = .ok (.getfield 23, 3) := by decide +kernel
theorem dX2_tryWay_53 : decode cX2_tryWay 53 = .ok (.getfield 53, 3) := by decide +kernel
theorem dX2_tryWay_56 : decode cX2_tryWay 56 = .ok (.getfield 121, 3) := by decide +kernel
theorem dX2_tryWay_59 : decode cX2_tryWay 59 = .ok (.iload 4, 2) := by decide +kernel
theorem dX2_tryWay_61 : decode cX2_tryWay 61 = .ok (.iaload, 1) := by decide +kernel
theorem dX2_tryWay_62 : decode cX2_tryWay 62 = .ok (.if_icmp .ge 8, 3) := by decide +kernel
theorem dX2_tryWay_65 : decode cX2_tryWay 65 = .ok (.iload 5, 2) := by decide +kernel
theorem dX2_tryWay_67 : decode cX2_tryWay 67 = .ok (.goto 7, 3) := by decide +kernel
theorem dX2_tryWay_70 : decode cX2_tryWay 70 = .ok (.iload 5, 2) := by decide +kernel
theorem dX2_tryWay_72 : decode cX2_tryWay 72 = .ok (.iconst 1, 1) := by decide +kernel
theorem dX2_tryWay_73 : decode cX2_tryWay 73 = .ok (.iadd, 1) := by decide +kernel
theorem dX2_tryWay_74 : decode cX2_tryWay 74 = .ok (.iastore, 1) := by decide +kernel
theorem dX2_tryWay_75 : decode cX2_tryWay 75 = .ok (.iinc 4 1, 3) := by decide +kernel
theorem dX2_tryWay_78 : decode cX2_tryWay 78 = .ok (.goto (-73), 3) := by decide +kernel
theorem dX2_tryWay_81 : decode cX2_tryWay 81 = .ok (.return_, 1) := by decide +kernel
set_option maxRecDepth 20000 in
theorem ggX3_init_X4_init : GoodIn wsX3_init wsX4_init := goodIn_r _ [18, 19, 2, 3, 4, 20, 21, 35, 36] (by decide +kernel) (by decide +kernel)
set_option maxRecDepth 20000 in
theorem gX3_init_X4_init : GoodIn wsX3_init (wsX4_init) := ggX3_init_X4_init
set_option maxRecDepth 20000 in
theorem ggX3_init_J7_fill_53178 : GoodIn wsX3_init wsJ7_fill_53178 := goodIn_r _ [25] (by decide +kernel) (by decide +kernel)
set_option maxRecDepth 20000 in
theorem gX3_init_J7_fill_53178 : GoodIn wsX3_init (va_wsS RX3 41 yJ7_fill_53178 wsJ7_fill_53178) := goodIn_app (goodIn_of _ (by decide +kernel)) ggX3_init_J7_fill_53178
theorem dX3_init_0 : decode cX3_init 0 = .ok (.aload_n 0, 1) := by decide +kernel
theorem dX3_init_1 : decode cX3_init 1 = .ok (.invokespecial 3, 3) := by decide +kernel
theorem dX3_init_4 : decode cX3_init 4 = .ok (.aload_n 0, 1) := by decide +kernel
theorem dX3_init_5 : decode cX3_init 5 = .ok (.bipush 6, 2) := by decide +kernel
theorem dX3_init_7 : decode cX3_init 7 = .ok (.newarray .int, 2) := by decide +kernel
theorem dX3_init_9 : decode cX3_init 9 = .ok (.putfield 9, 3) := by decide +kernel
theorem dX3_init_12 : decode cX3_init 12 = .ok (.aload_n 0, 1) := by decide +kernel
theorem dX3_init_13 : decode cX3_init 13 = .ok (.bipush 6, 2) := by decide +kernel
theorem dX3_init_15 : decode cX3_init 15 = .ok (.newarray .int, 2) := by decide +kernel
theorem dX3_init_17 : decode cX3_init 17 = .ok (.putfield 15, 3) := by decide +kernel
theorem dX3_init_20 : decode cX3_init 20 = .ok (.aload_n 0, 1) := by decide +kernel
theorem dX3_init_21 : decode cX3_init 21 = .ok (.bipush 6, 2) := by decide +kernel
theorem dX3_init_23 : decode cX3_init 23 = .ok (.newarray .int, 2) := by decide +kernel
theorem dX3_init_25 : decode cX3_init 25 = .ok (.putfield 18, 3) := by decide +kernel
theorem dX3_init_28 : decode cX3_init 28 = .ok (.aload_n 0, 1) := by decide +kernel
theorem dX3_init_29 : decode cX3_init 29 = .ok (.new 21, 3) := by decide +kernel
theorem dX3_init_32 : decode cX3_init 32 = .ok (.dup, 1) := by decide +kernel
theorem dX3_init_33 : decode cX3_init 33 = .ok (.invokespecial 23, 3) := by decide +kernel
theorem dX3_init_36 : decode cX3_init 36 = .ok (.putfield 24, 3) := by decide +kernel
theorem dX3_init_39 : decode cX3_init 39 = .ok (.aload_n 0, 1) := by decide +kernel
theorem dX3_init_40 : decode cX3_init 40 = .ok (.bipush 6, 2) := by decide +kernel
theorem dX3_init_42 : decode cX3_init 42 = .ok (.newarray .int, 2) := by decide +kernel
theorem dX3_init_44 : decode cX3_init 44 = .ok (.putfield 28, 3) := by decide +kernel
theorem dX3_init_47 : decode cX3_init 47 = .ok (.aload_n 0, 1) := by decide +kernel
theorem dX3_init_48 : decode cX3_init 48 = .ok (.bipush 6, 2) := by decide +kernel
theorem dX3_init_50 : decode cX3_init 50 = .ok (.newarray .int, 2) := by decide +kernel
theorem dX3_init_52 : decode cX3_init 52 = .ok (.putfield 31, 3) := by decide +kernel
theorem dX3_init_55 : decode cX3_init 55 = .ok (.aload_n 0, 1) := by decide +kernel
theorem dX3_init_56 : decode cX3_init 56 = .ok (.iconst 1, 1) := by decide +kernel
theorem dX3_init_57 : decode cX3_init 57 = .ok (.putfield 34, 3) := by decide +kernel
theorem dX3_init_60 : decode cX3_init 60 = .ok (.aload_n 0, 1) := by decide +kernel
theorem dX3_init_61 : decode cX3_init 61 = .ok (.iconst 4, 1) := by decide +kernel
theorem dX3_init_62 : decode cX3_init 62 = .ok (.putfield 38, 3) := by decide +kernel
theorem dX3_init_65 : decode cX3_init 65 = .ok (.aload_n 0, 1) := by decide +kernel
theorem dX3_init_66 : decode cX3_init 66 = .ok (.getfield 18, 3) := by decide +kernel
theorem dX3_init_69 : decode cX3_init 69 = .ok (.bipush 12, 2) := by decide +kernel
theorem dX3_init_71 : decode cX3_init 71 = .ok (.invokestatic 41, 3) := by decide +kernel
theorem dX3_init_74 : decode cX3_init 74 = .ok (.return_, 1) := by decide +kernel
set_option maxRecDepth 20000 in
theorem ggX3_assemble_J7_fill_53178 : GoodIn wsX3_assemble wsJ7_fill_53178 := goodIn_r _ [9] (by decide +kernel) (by decide +kernel)
set_option maxRecDepth 20000 in
theorem gX3_assemble_J7_fill_53178 : GoodIn wsX3_assemble (va_wsS RX3 41 yJ7_fill_53178 wsJ7_fill_53178) := goodIn_app (goodIn_of _ (by decide +kernel)) ggX3_assemble_J7_fill_53178
theorem dX3_assemble_0 : decode cX3_assemble 0 = .ok (.aload_n 0, 1) := by decide +kernel
theorem dX3_assemble_1 : decode cX3_assemble 1 = .ok (.iload_n 1, 1) := by decide +kernel
theorem dX3_assemble_2 : decode cX3_assemble 2 = .ok (.putfield 38, 3) := by decide +kernel
theorem dX3_assemble_5 : decode cX3_assemble 5 = .ok (.aload_n 0, 1) := by decide +kernel
theorem dX3_assemble_6 : decode cX3_assemble 6 = .ok (.iconst 0, 1) := by decide +kernel
theorem dX3_assemble_7 : decode cX3_assemble 7 = .ok (.putfield 47, 3) := by decide +kernel
theorem dX3_assemble_10 : decode cX3_assemble 10 = .ok (.aload_n 0, 1) := by decide +kernel
theorem dX3_assemble_11 : decode cX3_assemble 11 = .ok (.getfield 9, 3) := by decide +kernel
theorem dX3_assemble_14 : decode cX3_assemble 14 = .ok (.iconst 0, 1) := by decide +kernel
theorem dX3_assemble_15 : decode cX3_assemble 15 = .ok (.invokestatic 41, 3) := by decide +kernel
theorem dX3_assemble_18 : decode cX3_assemble 18 = .ok (.aload_n 0, 1) := by decide +kernel
theorem dX3_assemble_19 : decode cX3_assemble 19 = .ok (.getfield 15, 3) := by decide +kernel
theorem dX3_assemble_22 : decode cX3_assemble 22 = .ok (.iconst 0, 1) := by decide +kernel
theorem dX3_assemble_23 : decode cX3_assemble 23 = .ok (.invokestatic 41, 3) := by decide +kernel
theorem dX3_assemble_26 : decode cX3_assemble 26 = .ok (.aload_n 0, 1) := by decide +kernel
theorem dX3_assemble_27 : decode cX3_assemble 27 = .ok (.getfield 18, 3) := by decide +kernel
theorem dX3_assemble_30 : decode cX3_assemble 30 = .ok (.bipush 12, 2) := by decide +kernel
theorem dX3_assemble_32 : decode cX3_assemble 32 = .ok (.invokestatic 41, 3) := by decide +kernel
theorem dX3_assemble_35 : decode cX3_assemble 35 = .ok (.return_, 1) := by decide +kernel
set_option maxRecDepth 20000 in
theorem ggX3_become_X4_take : GoodIn wsX3_become wsX4_take := goodIn_r _ [20, 21, 22, 23, 24, 25, 26, 27, 9, 10, 11, 37, 38] (by decide +kernel) (by decide +kernel)
set_option maxRecDepth 20000 in
theorem gX3_become_X4_take : GoodIn wsX3_become (wsV RX3 56 RX4 yX4_take wsX4_take) := goodIn_app (goodIn_of _ (by decide +kernel)) ggX3_become_X4_take
theorem dX3_become_0 : decode cX3_become 0 = .ok (.aload_n 0, 1) := by decide +kernel
theorem dX3_become_1 : decode cX3_become 1 = .ok (.aload_n 1, 1) := by decide +kernel
theorem dX3_become_2 : decode cX3_become 2 = .ok (.getfield 38, 3) := by decide +kernel
theorem dX3_become_5 : decode cX3_become 5 = .ok (.putfield 38, 3) := by decide +kernel
theorem dX3_become_8 : decode cX3_become 8 = .ok (.aload_n 0, 1) := by decide +kernel
theorem dX3_become_9 : decode cX3_become 9 = .ok (.aload_n 1, 1) := by decide +kernel
theorem dX3_become_10 : decode cX3_become 10 = .ok (.getfield 34, 3) := by decide +kernel
theorem dX3_become_13 : decode cX3_become 13 = .ok (.putfield 34, 3) := by decide +kernel
theorem dX3_become_16 : decode cX3_become 16 = .ok (.aload_n 0, 1) := by decide +kernel
theorem dX3_become_17 : decode cX3_become 17 = .ok (.aload_n 1, 1) := by decide +kernel
theorem dX3_become_18 : decode cX3_become 18 = .ok (.getfield 47, 3) := by decide +kernel
theorem dX3_become_21 : decode cX3_become 21 = .ok (.putfield 47, 3) := by decide +kernel
theorem dX3_become_24 : decode cX3_become 24 = .ok (.aload_n 0, 1) := by decide +kernel
theorem dX3_become_25 : decode cX3_become 25 = .ok (.getfield 24, 3) := by decide +kernel
theorem dX3_become_28 : decode cX3_become 28 = .ok (.aload_n 1, 1) := by decide +kernel
theorem dX3_become_29 : decode cX3_become 29 = .ok (.getfield 24, 3) := by decide +kernel
theorem dX3_become_32 : decode cX3_become 32 = .ok (.getfield 50, 3) := by decide +kernel
theorem dX3_become_35 : decode cX3_become 35 = .ok (.aload_n 1, 1) := by decide +kernel
theorem dX3_become_36 : decode cX3_become 36 = .ok (.getfield 24, 3) := by decide +kernel
theorem dX3_become_39 : decode cX3_become 39 = .ok (.getfield 53, 3) := by decide +kernel
theorem dX3_become_42 : decode cX3_become 42 = .ok (.invokevirtual 56, 3) := by decide +kernel
theorem dX3_become_45 : decode cX3_become 45 = .ok (.aload_n 1, 1) := by decide +kernel
theorem dX3_become_46 : decode cX3_become 46 = .ok (.getfield 9, 3) := by decide +kernel
theorem dX3_become_49 : decode cX3_become 49 = .ok (.iconst 0, 1) := by decide +kernel
theorem dX3_become_50 : decode cX3_become 50 = .ok (.aload_n 0, 1) := by decide +kernel
theorem dX3_become_51 : decode cX3_become 51 = .ok (.getfield 9, 3) := by decide +kernel
theorem dX3_become_54 : decode cX3_become 54 = .ok (.iconst 0, 1) := by decide +kernel
theorem dX3_become_55 : decode cX3_become 55 = .ok (.bipush 6, 2) := by decide +kernel
theorem dX3_become_57 : decode cX3_become 57 = .ok (.invokestatic 59, 3) := by decide +kernel
theorem dX3_become_60 : decode cX3_become 60 = .ok (.aload_n 1, 1) := by decide +kernel
theorem dX3_become_61 : decode cX3_become 61 = .ok (.getfield 15, 3) := by decide +kernel
theorem dX3_become_64 : decode cX3_become 64 = .ok (.iconst 0, 1) := by decide +kernel
theorem dX3_become_65 : decode cX3_become 65 = .ok (.aload_n 0, 1) := by decide +kernel
theorem dX3_become_66 : decode cX3_become 66 = .ok (.getfield 15, 3) := by decide +kernel
theorem dX3_become_69 : decode cX3_become 69 = .ok (.iconst 0, 1) := by decide +kernel
theorem dX3_become_70 : decode cX3_become 70 = .ok (.bipush 6, 2) := by decide +kernel
theorem dX3_become_72 : decode cX3_become 72 = .ok (.invokestatic 59, 3) := by decide +kernel
theorem dX3_become_75 : decode cX3_become 75 = .ok (.aload_n 1, 1) := by decide +kernel
theorem dX3_become_76 : decode cX3_become 76 = .ok (.getfield 18, 3) := by decide +kernel
theorem dX3_become_79 : decode cX3_become 79 = .ok (.iconst 0, 1) := by decide +kernel
theorem dX3_become_80 : decode cX3_become 80 = .ok (.aload_n 0, 1) := by decide +kernel
theorem dX3_become_81 : decode cX3_become 81 = .ok (.getfield 18, 3) := by decide +kernel
theorem dX3_become_84 : decode cX3_become 84 = .ok (.iconst 0, 1) := by decide +kernel
theorem dX3_become_85 : decode cX3_become 85 = .ok (.bipush 6, 2) := by decide +kernel
theorem dX3_become_87 : decode cX3_become 87 = .ok (.invokestatic 59, 3) := by decide +kernel
theorem dX3_become_90 : decode cX3_become 90 = .ok (.aload_n 1, 1) := by decide +kernel
theorem dX3_become_91 : decode cX3_become 91 = .ok (.getfield 28, 3) := by decide +kernel
theorem dX3_become_94 : decode cX3_become 94 = .ok (.iconst 0, 1) := by decide +kernel
theorem dX3_become_95 : decode cX3_become 95 = .ok (.aload_n 0, 1) := by decide +kernel
theorem dX3_become_96 : decode cX3_become 96 = .ok (.getfield 28, 3) := by decide +kernel
theorem dX3_become_99 : decode cX3_become 99 = .ok (.iconst 0, 1) := by decide +kernel
theorem dX3_become_100 : decode cX3_become 100 = .ok (.bipush 6, 2) := by decide +kernel
theorem dX3_become_102 : decode cX3_become 102 = .ok (.invokestatic 59, 3) := by decide +kernel
theorem dX3_become_105 : decode cX3_become 105 = .ok (.aload_n 1, 1) := by decide +kernel
theorem dX3_become_106 : decode cX3_become 106 = .ok (.getfield 31, 3) := by decide +kernel
theorem dX3_become_109 : decode cX3_become 109 = .ok (.iconst 0, 1) := by decide +kernel
theorem dX3_become_110 : decode cX3_become 110 = .ok (.aload_n 0, 1) := by decide +kernel
theorem dX3_become_111 : decode cX3_become 111 = .ok (.getfield 31, 3) := by decide +kernel
theorem dX3_become_114 : decode cX3_become 114 = .ok (.iconst 0, 1) := by decide +kernel
theorem dX3_become_115 : decode cX3_become 115 = .ok (.bipush 6, 2) := by decide +kernel
theorem dX3_become_117 : decode cX3_become 117 = .ok (.invokestatic 59, 3) := by decide +kernel
theorem dX3_become_120 : decode cX3_become 120 = .ok (.return_, 1) := by decide +kernel
theorem dX3_has_0 : decode cX3_has 0 = .ok (.iload_n 1, 1) := by decide +kernel
theorem dX3_has_1 : decode cX3_has 1 = .ok (.ifCond .lt 15, 3) := by decide +kernel
theorem dX3_has_4 : decode cX3_has 4 = .ok (.iload_n 1, 1) := by decide +kernel
theorem dX3_has_5 : decode cX3_has 5 = .ok (.aload_n 0, 1) := by decide +kernel
theorem dX3_has_6 : decode cX3_has 6 = .ok (.getfield 38, 3) := by decide +kernel
theorem dX3_has_9 : decode cX3_has 9 = .ok (.if_icmp .ge 7, 3) := by decide +kernel
theorem dX3_has_12 : decode cX3_has 12 = .ok (.iconst 1, 1) := by decide +kernel
theorem dX3_has_13 : decode cX3_has 13 = .ok (.goto 4, 3) := by decide +kernel
theorem dX3_has_16 : decode cX3_has 16 = .ok (.iconst 0, 1) := by decide +kernel
theorem dX3_has_17 : decode cX3_has 17 = .ok (.ireturn, 1) := by decide +kernel
theorem dX3_rowOf_0 : decode cX3_rowOf 0 = .ok (.iload_n 1, 1) := by decide +kernel
theorem dX3_rowOf_1 : decode cX3_rowOf 1 = .ok (.ifCond .ne 8, 3) := by decide +kernel
theorem dX3_rowOf_4 : decode cX3_rowOf 4 = .ok (.aload_n 0, 1) := by decide +kernel
theorem dX3_rowOf_5 : decode cX3_rowOf 5 = .ok (.getfield 9, 3) := by decide +kernel
theorem dX3_rowOf_8 : decode cX3_rowOf 8 = .ok (.areturn, 1) := by decide +kernel
theorem dX3_rowOf_9 : decode cX3_rowOf 9 = .ok (.iload_n 1, 1) := by decide +kernel
theorem dX3_rowOf_10 : decode cX3_rowOf 10 = .ok (.iconst 1, 1) := by decide +kernel
theorem dX3_rowOf_11 : decode cX3_rowOf 11 = .ok (.if_icmp .ne 10, 3) := by decide +kernel
theorem dX3_rowOf_14 : decode cX3_rowOf 14 = .ok (.aload_n 0, 1) := by decide +kernel
theorem dX3_rowOf_15 : decode cX3_rowOf 15 = .ok (.getfield 15, 3) := by decide +kernel
theorem dX3_rowOf_18 : decode cX3_rowOf 18 = .ok (.goto 7, 3) := by decide +kernel
theorem dX3_rowOf_21 : decode cX3_rowOf 21 = .ok (.aload_n 0, 1) := by decide +kernel
theorem dX3_rowOf_22 : decode cX3_rowOf 22 = .ok (.getfield 18, 3) := by decide +kernel
theorem dX3_rowOf_25 : decode cX3_rowOf 25 = .ok (.areturn, 1) := by decide +kernel
set_option maxRecDepth 20000 in
theorem ggX3_toldOfMember_X3_has : GoodIn wsX3_toldOfMember wsX3_has := goodIn_r _ [5, 6, 14, 15, 16, 17, 18, 19, 20, 21, 22] (by decide +kernel) (by decide +kernel)
set_option maxRecDepth 20000 in
theorem gX3_toldOfMember_X3_has : GoodIn wsX3_toldOfMember (wsV RX3 65 RX3 yX3_has wsX3_has) := goodIn_app (goodIn_of _ (by decide +kernel)) ggX3_toldOfMember_X3_has
set_option maxRecDepth 20000 in
theorem ggX3_toldOfMember_X3_rowOf : GoodIn wsX3_toldOfMember wsX3_rowOf := goodIn_r _ [10, 11, 12, 13, 14, 15, 16, 17, 18, 19, 20, 21, 22] (by decide +kernel) (by decide +kernel)
set_option maxRecDepth 20000 in
theorem gX3_toldOfMember_X3_rowOf : GoodIn wsX3_toldOfMember (wsV RX3 69 RX3 yX3_rowOf wsX3_rowOf) := goodIn_app (goodIn_of _ (by decide +kernel)) ggX3_toldOfMember_X3_rowOf
theorem dX3_toldOfMember_0 : decode cX3_toldOfMember 0 = .ok (.aload_n 0, 1) := by decide +kernel
theorem dX3_toldOfMember_1 : decode cX3_toldOfMember 1 = .ok (.iload_n 2, 1) := by decide +kernel
theorem dX3_toldOfMember_2 : decode cX3_toldOfMember 2 = .ok (.invokevirtual 65, 3) := by decide +kernel
theorem dX3_toldOfMember_5 : decode cX3_toldOfMember 5 = .ok (.ifCond .eq 13, 3) := by decide +kernel
theorem dX3_toldOfMember_8 : decode cX3_toldOfMember 8 = .ok (.aload_n 0, 1) := by decide +kernel
theorem dX3_toldOfMember_9 : decode cX3_toldOfMember 9 = .ok (.iload_n 1, 1) := by decide +kernel
theorem dX3_toldOfMember_10 : decode cX3_toldOfMember 10 = .ok (.invokevirtual 69, 3) := by decide +kernel
theorem dX3_toldOfMember_13 : decode cX3_toldOfMember 13 = .ok (.iload_n 2, 1) := by decide +kernel
theorem dX3_toldOfMember_14 : decode cX3_toldOfMember 14 = .ok (.iaload, 1) := by decide +kernel
theorem dX3_toldOfMember_15 : decode cX3_toldOfMember 15 = .ok (.goto 5, 3) := by decide +kernel
theorem dX3_toldOfMember_18 : decode cX3_toldOfMember 18 = .ok (.bipush (-2), 2) := by decide +kernel
theorem dX3_toldOfMember_20 : decode cX3_toldOfMember 20 = .ok (.ireturn, 1) := by decide +kernel
theorem dX3_addSight_0 : decode cX3_addSight 0 = .ok (.aload_n 0, 1) := by decide +kernel
theorem dX3_addSight_1 : decode cX3_addSight 1 = .ok (.getfield 47, 3) := by decide +kernel
theorem dX3_addSight_4 : decode cX3_addSight 4 = .ok (.bipush 6, 2) := by decide +kernel
theorem dX3_addSight_6 : decode cX3_addSight 6 = .ok (.if_icmp .ge 33, 3) := by decide +kernel
theorem dX3_addSight_9 : decode cX3_addSight 9 = .ok (.aload_n 0, 1) := by decide +kernel
theorem dX3_addSight_10 : decode cX3_addSight 10 = .ok (.getfield 28, 3) := by decide +kernel
theorem dX3_addSight_13 : decode cX3_addSight 13 = .ok (.aload_n 0, 1) := by decide +kernel
theorem dX3_addSight_14 : decode cX3_addSight 14 = .ok (.getfield 47, 3) := by decide +kernel
theorem dX3_addSight_17 : decode cX3_addSight 17 = .ok (.iload_n 1, 1) := by decide +kernel
theorem dX3_addSight_18 : decode cX3_addSight 18 = .ok (.iastore, 1) := by decide +kernel
theorem dX3_addSight_19 : decode cX3_addSight 19 = .ok (.aload_n 0, 1) := by decide +kernel
theorem dX3_addSight_20 : decode cX3_addSight 20 = .ok (.getfield 31, 3) := by decide +kernel
theorem dX3_addSight_23 : decode cX3_addSight 23 = .ok (.aload_n 0, 1) := by decide +kernel
theorem dX3_addSight_24 : decode cX3_addSight 24 = .ok (.getfield 47, 3) := by decide +kernel
theorem dX3_addSight_27 : decode cX3_addSight 27 = .ok (.iload_n 2, 1) := by decide +kernel
theorem dX3_addSight_28 : decode cX3_addSight 28 = .ok (.iastore, 1) := by decide +kernel
theorem dX3_addSight_29 : decode cX3_addSight 29 = .ok (.aload_n 0, 1) := by decide +kernel
theorem dX3_addSight_30 : decode cX3_addSight 30 = .ok (.dup, 1) := by decide +kernel
theorem dX3_addSight_31 : decode cX3_addSight 31 = .ok (.getfield 47, 3) := by decide +kernel
theorem dX3_addSight_34 : decode cX3_addSight 34 = .ok (.iconst 1, 1) := by decide +kernel
theorem dX3_addSight_35 : decode cX3_addSight 35 = .ok (.iadd, 1) := by decide +kernel
theorem dX3_addSight_36 : decode cX3_addSight 36 = .ok (.putfield 47, 3) := by decide +kernel
theorem dX3_addSight_39 : decode cX3_addSight 39 = .ok (.aload_n 0, 1) := by decide +kernel
theorem dX3_addSight_40 : decode cX3_addSight 40 = .ok (.getfield 47, 3) := by decide +kernel
theorem dX3_addSight_43 : decode cX3_addSight 43 = .ok (.ireturn, 1) := by decide +kernel
theorem dX3_farFromBest_0 : decode cX3_farFromBest 0 = .ok (.iconst 0, 1) := by decide +kernel
theorem dX3_farFromBest_1 : decode cX3_farFromBest 1 = .ok (.istore_n 2, 1) := by decide +kernel
theorem dX3_farFromBest_2 : decode cX3_farFromBest 2 = .ok (.iconst 0, 1) := by decide +kernel
theorem dX3_farFromBest_3 : decode cX3_farFromBest 3 = .ok (.istore_n 3, 1) := by decide +kernel
theorem dX3_farFromBest_4 : decode cX3_farFromBest 4 = .ok (.iload_n 3, 1) := by decide +kernel
theorem dX3_farFromBest_5 : decode cX3_farFromBest 5 = .ok (.aload_n 0, 1) := by decide +kernel
theorem dX3_farFromBest_6 : decode cX3_farFromBest 6 = .ok (.getfield 38, 3) := by decide +kernel
theorem dX3_farFromBest_9 : decode cX3_farFromBest 9 = .ok (.if_icmp .ge 23, 3) := by decide +kernel
theorem dX3_farFromBest_12 : decode cX3_farFromBest 12 = .ok (.iload_n 2, 1) := by decide +kernel
theorem dX3_farFromBest_13 : decode cX3_farFromBest 13 = .ok (.iload_n 1, 1) := by decide +kernel
theorem dX3_farFromBest_14 : decode cX3_farFromBest 14 = .ok (.aload_n 0, 1) := by decide +kernel
theorem dX3_farFromBest_15 : decode cX3_farFromBest 15 = .ok (.getfield 18, 3) := by decide +kernel
theorem dX3_farFromBest_18 : decode cX3_farFromBest 18 = .ok (.iload_n 3, 1) := by decide +kernel
theorem dX3_farFromBest_19 : decode cX3_farFromBest 19 = .ok (.iaload, 1) := by decide +kernel
theorem dX3_farFromBest_20 : decode cX3_farFromBest 20 = .ok (.isub, 1) := by decide +kernel
theorem dX3_farFromBest_21 : decode cX3_farFromBest 21 = .ok (.invokestatic 73, 3) := by decide +kernel
theorem dX3_farFromBest_24 : decode cX3_farFromBest 24 = .ok (.iadd, 1) := by decide +kernel
theorem dX3_farFromBest_25 : decode cX3_farFromBest 25 = .ok (.istore_n 2, 1) := by decide +kernel
theorem dX3_farFromBest_26 : decode cX3_farFromBest 26 = .ok (.iinc 3 1, 3) := by decide +kernel
theorem dX3_farFromBest_29 : decode cX3_farFromBest 29 = .ok (.goto (-25), 3) := by decide +kernel
theorem dX3_farFromBest_32 : decode cX3_farFromBest 32 = .ok (.iload_n 2, 1) := by decide +kernel
theorem dX3_farFromBest_33 : decode cX3_farFromBest 33 = .ok (.ireturn, 1) := by decide +kernel
theorem dX4_init_0 : decode cX4_init 0 = .ok (.aload_n 0, 1) := by decide +kernel
theorem dX4_init_1 : decode cX4_init 1 = .ok (.invokespecial 3, 3) := by decide +kernel
theorem dX4_init_4 : decode cX4_init 4 = .ok (.aload_n 0, 1) := by decide +kernel
theorem dX4_init_5 : decode cX4_init 5 = .ok (.bipush 20, 2) := by decide +kernel
theorem dX4_init_7 : decode cX4_init 7 = .ok (.newarray .int, 2) := by decide +kernel
theorem dX4_init_9 : decode cX4_init 9 = .ok (.putfield 9, 3) := by decide +kernel
theorem dX4_init_12 : decode cX4_init 12 = .ok (.aload_n 0, 1) := by decide +kernel
theorem dX4_init_13 : decode cX4_init 13 = .ok (.getfield 9, 3) := by decide +kernel
theorem dX4_init_16 : decode cX4_init 16 = .ok (.iconst 0, 1) := by decide +kernel
theorem dX4_init_17 : decode cX4_init 17 = .ok (.bipush 108, 2) := by decide +kernel
theorem dX4_init_19 : decode cX4_init 19 = .ok (.iastore, 1) := by decide +kernel
theorem dX4_init_20 : decode cX4_init 20 = .ok (.aload_n 0, 1) := by decide +kernel
theorem dX4_init_21 : decode cX4_init 21 = .ok (.iconst 1, 1) := by decide +kernel
theorem dX4_init_22 : decode cX4_init 22 = .ok (.putfield 15, 3) := by decide +kernel
theorem dX4_init_25 : decode cX4_init 25 = .ok (.return_, 1) := by decide +kernel
theorem dX4_take_0 : decode cX4_take 0 = .ok (.aload_n 0, 1) := by decide +kernel
theorem dX4_take_1 : decode cX4_take 1 = .ok (.iload_n 2, 1) := by decide +kernel
theorem dX4_take_2 : decode cX4_take 2 = .ok (.bipush 20, 2) := by decide +kernel
theorem dX4_take_4 : decode cX4_take 4 = .ok (.invokestatic 19, 3) := by decide +kernel
theorem dX4_take_7 : decode cX4_take 7 = .ok (.putfield 15, 3) := by decide +kernel
theorem dX4_take_10 : decode cX4_take 10 = .ok (.aload_n 1, 1) := by decide +kernel
theorem dX4_take_11 : decode cX4_take 11 = .ok (.iconst 0, 1) := by decide +kernel
theorem dX4_take_12 : decode cX4_take 12 = .ok (.aload_n 0, 1) := by decide +kernel
theorem dX4_take_13 : decode cX4_take 13 = .ok (.getfield 9, 3) := by decide +kernel
theorem dX4_take_16 : decode cX4_take 16 = .ok (.iconst 0, 1) := by decide +kernel
theorem dX4_take_17 : decode cX4_take 17 = .ok (.aload_n 0, 1) := by decide +kernel
theorem dX4_take_18 : decode cX4_take 18 = .ok (.getfield 15, 3) := by decide +kernel
theorem dX4_take_21 : decode cX4_take 21 = .ok (.invokestatic 25, 3) := by decide +kernel
theorem dX4_take_24 : decode cX4_take 24 = .ok (.return_, 1) := by decide +kernel
set_option maxRecDepth 20000 in
theorem ggX4_takeNumber_X4_signOf : GoodIn wsX4_takeNumber wsX4_signOf := goodIn_r _ [6] (by decide +kernel) (by decide +kernel)
set_option maxRecDepth 20000 in
theorem gX4_takeNumber_X4_signOf : GoodIn wsX4_takeNumber (va_wsS RX4 31 yX4_signOf wsX4_signOf) := goodIn_app (goodIn_of _ (by decide +kernel)) ggX4_takeNumber_X4_signOf
theorem dX4_takeNumber_0 : decode cX4_takeNumber 0 = .ok (.aload_n 0, 1) := by decide +kernel
theorem dX4_takeNumber_1 : decode cX4_takeNumber 1 = .ok (.getfield 9, 3) := by decide +kernel
theorem dX4_takeNumber_4 : decode cX4_takeNumber 4 = .ok (.iconst 0, 1) := by decide +kernel
theorem dX4_takeNumber_5 : decode cX4_takeNumber 5 = .ok (.bipush 45, 2) := by decide +kernel
theorem dX4_takeNumber_7 : decode cX4_takeNumber 7 = .ok (.iastore, 1) := by decide +kernel
theorem dX4_takeNumber_8 : decode cX4_takeNumber 8 = .ok (.aload_n 0, 1) := by decide +kernel
theorem dX4_takeNumber_9 : decode cX4_takeNumber 9 = .ok (.getfield 9, 3) := by decide +kernel
theorem dX4_takeNumber_12 : decode cX4_takeNumber 12 = .ok (.iconst 1, 1) := by decide +kernel
theorem dX4_takeNumber_13 : decode cX4_takeNumber 13 = .ok (.bipush 48, 2) := by decide +kernel
theorem dX4_takeNumber_15 : decode cX4_takeNumber 15 = .ok (.iload_n 1, 1) := by decide +kernel
theorem dX4_takeNumber_16 : decode cX4_takeNumber 16 = .ok (.bipush 6, 2) := by decide +kernel
theorem dX4_takeNumber_18 : decode cX4_takeNumber 18 = .ok (.irem, 1) := by decide +kernel
theorem dX4_takeNumber_19 : decode cX4_takeNumber 19 = .ok (.iadd, 1) := by decide +kernel
theorem dX4_takeNumber_20 : decode cX4_takeNumber 20 = .ok (.iastore, 1) := by decide +kernel
theorem dX4_takeNumber_21 : decode cX4_takeNumber 21 = .ok (.aload_n 0, 1) := by decide +kernel
theorem dX4_takeNumber_22 : decode cX4_takeNumber 22 = .ok (.getfield 9, 3) := by decide +kernel
theorem dX4_takeNumber_25 : decode cX4_takeNumber 25 = .ok (.iconst 2, 1) := by decide +kernel
theorem dX4_takeNumber_26 : decode cX4_takeNumber 26 = .ok (.iload_n 1, 1) := by decide +kernel
theorem dX4_takeNumber_27 : decode cX4_takeNumber 27 = .ok (.bipush 6, 2) := by decide +kernel
theorem dX4_takeNumber_29 : decode cX4_takeNumber 29 = .ok (.idiv, 1) := by decide +kernel
theorem dX4_takeNumber_30 : decode cX4_takeNumber 30 = .ok (.invokestatic 31, 3) := by decide +kernel
theorem dX4_takeNumber_33 : decode cX4_takeNumber 33 = .ok (.iastore, 1) := by decide +kernel
theorem dX4_takeNumber_34 : decode cX4_takeNumber 34 = .ok (.aload_n 0, 1) := by decide +kernel
theorem dX4_takeNumber_35 : decode cX4_takeNumber 35 = .ok (.iconst 3, 1) := by decide +kernel
theorem dX4_takeNumber_36 : decode cX4_takeNumber 36 = .ok (.putfield 15, 3) := by decide +kernel
theorem dX4_takeNumber_39 : decode cX4_takeNumber 39 = .ok (.return_, 1) := by decide +kernel
theorem dX4_signOf_0 : decode cX4_signOf 0 = .ok (.iload_n 0, 1) := by decide +kernel
theorem dX4_signOf_1 : decode cX4_signOf 1 = .ok (.tableswitch 36 0 2 #[27, 30, 33], 27) := by decide +kernel
theorem dX4_signOf_28 : decode cX4_signOf 28 = .ok (.bipush 108, 2) := by decide +kernel
theorem dX4_signOf_30 : decode cX4_signOf 30 = .ok (.ireturn, 1) := by decide +kernel
theorem dX4_signOf_31 : decode cX4_signOf 31 = .ok (.bipush 109, 2) := by decide +kernel
theorem dX4_signOf_33 : decode cX4_signOf 33 = .ok (.ireturn, 1) := by decide +kernel
theorem dX4_signOf_34 : decode cX4_signOf 34 = .ok (.bipush 112, 2) := by decide +kernel
theorem dX4_signOf_36 : decode cX4_signOf 36 = .ok (.ireturn, 1) := by decide +kernel
theorem dX4_signOf_37 : decode cX4_signOf 37 = .ok (.bipush 102, 2) := by decide +kernel
theorem dX4_signOf_39 : decode cX4_signOf 39 = .ok (.ireturn, 1) := by decide +kernel
theorem dX5_init_0 : decode cX5_init 0 = .ok (.aload_n 0, 1) := by decide +kernel
theorem dX5_init_1 : decode cX5_init 1 = .ok (.invokespecial 3, 3) := by decide +kernel
theorem dX5_init_4 : decode cX5_init 4 = .ok (.aload_n 0, 1) := by decide +kernel
theorem dX5_init_5 : decode cX5_init 5 = .ok (.bipush 48, 2) := by decide +kernel
theorem dX5_init_7 : decode cX5_init 7 = .ok (.newarray .int, 2) := by decide +kernel
theorem dX5_init_9 : decode cX5_init 9 = .ok (.putfield 9, 3) := by decide +kernel
theorem dX5_init_12 : decode cX5_init 12 = .ok (.return_, 1) := by decide +kernel
theorem dX5_write_0 : decode cX5_write 0 = .ok (.aload_n 0, 1) := by decide +kernel
theorem dX5_write_1 : decode cX5_write 1 = .ok (.getfield 15, 3) := by decide +kernel
theorem dX5_write_4 : decode cX5_write 4 = .ok (.bipush 48, 2) := by decide +kernel
theorem dX5_write_6 : decode cX5_write 6 = .ok (.if_icmp .ge 23, 3) := by decide +kernel
theorem dX5_write_9 : decode cX5_write 9 = .ok (.aload_n 0, 1) := by decide +kernel
theorem dX5_write_10 : decode cX5_write 10 = .ok (.getfield 9, 3) := by decide +kernel
theorem dX5_write_13 : decode cX5_write 13 = .ok (.aload_n 0, 1) := by decide +kernel
theorem dX5_write_14 : decode cX5_write 14 = .ok (.getfield 15, 3) := by decide +kernel
theorem dX5_write_17 : decode cX5_write 17 = .ok (.iload_n 1, 1) := by decide +kernel
theorem dX5_write_18 : decode cX5_write 18 = .ok (.iastore, 1) := by decide +kernel
theorem dX5_write_19 : decode cX5_write 19 = .ok (.aload_n 0, 1) := by decide +kernel
theorem dX5_write_20 : decode cX5_write 20 = .ok (.dup, 1) := by decide +kernel
theorem dX5_write_21 : decode cX5_write 21 = .ok (.getfield 15, 3) := by decide +kernel
theorem dX5_write_24 : decode cX5_write 24 = .ok (.iconst 1, 1) := by decide +kernel
theorem dX5_write_25 : decode cX5_write 25 = .ok (.iadd, 1) := by decide +kernel
theorem dX5_write_26 : decode cX5_write 26 = .ok (.putfield 15, 3) := by decide +kernel
theorem dX5_write_29 : decode cX5_write 29 = .ok (.aload_n 0, 1) := by decide +kernel
theorem dX5_write_30 : decode cX5_write 30 = .ok (.getfield 15, 3) := by decide +kernel
theorem dX5_write_33 : decode cX5_write 33 = .ok (.ireturn, 1) := by decide +kernel
set_option maxRecDepth 20000 in
theorem ggX5_firstFault_X5_partsOf : GoodIn wsX5_firstFault wsX5_partsOf := goodIn_r _ [6] (by decide +kernel) (by decide +kernel)
set_option maxRecDepth 20000 in
theorem gX5_firstFault_X5_partsOf : GoodIn wsX5_firstFault (va_wsS RX5 19 yX5_partsOf wsX5_partsOf) := goodIn_app (goodIn_of _ (by decide +kernel)) ggX5_firstFault_X5_partsOf
theorem dX5_firstFault_0 : decode cX5_firstFault 0 = .ok (.iconst 1, 1) := by decide +kernel
theorem dX5_firstFault_1 : decode cX5_firstFault 1 = .ok (.istore_n 1, 1) := by decide +kernel
theorem dX5_firstFault_2 : decode cX5_firstFault 2 = .ok (.iconst 0, 1) := by decide +kernel
theorem dX5_firstFault_3 : decode cX5_firstFault 3 = .ok (.istore_n 2, 1) := by decide +kernel
theorem dX5_firstFault_4 : decode cX5_firstFault 4 = .ok (.iconst 0, 1) := by decide +kernel
theorem dX5_firstFault_5 : decode cX5_firstFault 5 = .ok (.istore_n 3, 1) := by decide +kernel
theorem dX5_firstFault_6 : decode cX5_firstFault 6 = .ok (.iload_n 3, 1) := by decide +kernel
theorem dX5_firstFault_7 : decode cX5_firstFault 7 = .ok (.aload_n 0, 1) := by decide +kernel
theorem dX5_firstFault_8 : decode cX5_firstFault 8 = .ok (.getfield 15, 3) := by decide +kernel
theorem dX5_firstFault_11 : decode cX5_firstFault 11 = .ok (.if_icmp .ge 94, 3) := by decide +kernel
theorem dX5_firstFault_14 : decode cX5_firstFault 14 = .ok (.iload_n 3, 1) := by decide +kernel
theorem dX5_firstFault_15 : decode cX5_firstFault 15 = .ok (.bipush 20, 2) := by decide +kernel
theorem dX5_firstFault_17 : decode cX5_firstFault 17 = .ok (.if_icmp .ge 7, 3) := by decide +kernel
theorem dX5_firstFault_20 : decode cX5_firstFault 20 = .ok (.iload_n 1, 1) := by decide +kernel
theorem dX5_firstFault_21 : decode cX5_firstFault 21 = .ok (.ifCond .ne 5, 3) := by decide +kernel
theorem dX5_firstFault_24 : decode cX5_firstFault 24 = .ok (.iload_n 3, 1) := by decide +kernel
theorem dX5_firstFault_25 : decode cX5_firstFault 25 = .ok (.ireturn, 1) := by decide +kernel
theorem dX5_firstFault_26 : decode cX5_firstFault 26 = .ok (.aload_n 0, 1) := by decide +kernel
theorem dX5_firstFault_27 : decode cX5_firstFault 27 = .ok (.getfield 9, 3) := by decide +kernel
theorem dX5_firstFault_30 : decode cX5_firstFault 30 = .ok (.iload_n 3, 1) := by decide +kernel
theorem dX5_firstFault_31 : decode cX5_firstFault 31 = .ok (.iaload, 1) := by decide +kernel
theorem dX5_firstFault_32 : decode cX5_firstFault 32 = .ok (.istore 4, 2) := by decide +kernel
theorem dX5_firstFault_34 : decode cX5_firstFault 34 = .ok (.iload_n 2, 1) := by decide +kernel
theorem dX5_firstFault_35 : decode cX5_firstFault 35 = .ok (.ifCond .eq 24, 3) := by decide +kernel
theorem dX5_firstFault_38 : decode cX5_firstFault 38 = .ok (.iload 4, 2) := by decide +kernel
theorem dX5_firstFault_40 : decode cX5_firstFault 40 = .ok (.bipush 48, 2) := by decide +kernel
theorem dX5_firstFault_42 : decode cX5_firstFault 42 = .ok (.if_icmp .lt 10, 3) := by decide +kernel
theorem dX5_firstFault_45 : decode cX5_firstFault 45 = .ok (.iload 4, 2) := by decide +kernel
theorem dX5_firstFault_47 : decode cX5_firstFault 47 = .ok (.bipush 57, 2) := by decide +kernel
theorem dX5_firstFault_49 : decode cX5_firstFault 49 = .ok (.if_icmp .le 5, 3) := by decide +kernel
theorem dX5_firstFault_52 : decode cX5_firstFault 52 = .ok (.iload_n 3, 1) := by decide +kernel
theorem dX5_firstFault_53 : decode cX5_firstFault 53 = .ok (.ireturn, 1) := by decide +kernel
theorem dX5_firstFault_54 : decode cX5_firstFault 54 = .ok (.iconst 0, 1) := by decide +kernel
theorem dX5_firstFault_55 : decode cX5_firstFault 55 = .ok (.istore_n 2, 1) := by decide +kernel
theorem dX5_firstFault_56 : decode cX5_firstFault 56 = .ok (.goto 43, 3) := by decide +kernel
theorem dX5_firstFault_59 : decode cX5_firstFault 59 = .ok (.iload 4, 2) := by decide +kernel
theorem dX5_firstFault_61 : decode cX5_firstFault 61 = .ok (.invokestatic 19, 3) := by decide +kernel
theorem dX5_firstFault_64 : decode cX5_firstFault 64 = .ok (.ifCond .ge 5, 3) := by decide +kernel
theorem dX5_firstFault_67 : decode cX5_firstFault 67 = .ok (.iload_n 3, 1) := by decide +kernel
theorem dX5_firstFault_68 : decode cX5_firstFault 68 = .ok (.ireturn, 1) := by decide +kernel
theorem dX5_firstFault_69 : decode cX5_firstFault 69 = .ok (.iload_n 1, 1) := by decide +kernel
theorem dX5_firstFault_70 : decode cX5_firstFault 70 = .ok (.iload 4, 2) := by decide +kernel
theorem dX5_firstFault_72 : decode cX5_firstFault 72 = .ok (.invokestatic 19, 3) := by decide +kernel
theorem dX5_firstFault_75 : decode cX5_firstFault 75 = .ok (.iconst 1, 1) := by decide +kernel
theorem dX5_firstFault_76 : decode cX5_firstFault 76 = .ok (.isub, 1) := by decide +kernel
theorem dX5_firstFault_77 : decode cX5_firstFault 77 = .ok (.iadd, 1) := by decide +kernel
theorem dX5_firstFault_78 : decode cX5_firstFault 78 = .ok (.istore_n 1, 1) := by decide +kernel
theorem dX5_firstFault_79 : decode cX5_firstFault 79 = .ok (.iload 4, 2) := by decide +kernel
theorem dX5_firstFault_81 : decode cX5_firstFault 81 = .ok (.bipush 45, 2) := by decide +kernel
theorem dX5_firstFault_83 : decode cX5_firstFault 83 = .ok (.if_icmp .eq 10, 3) := by decide +kernel
theorem dX5_firstFault_86 : decode cX5_firstFault 86 = .ok (.iload 4, 2) := by decide +kernel
theorem dX5_firstFault_88 : decode cX5_firstFault 88 = .ok (.bipush 43, 2) := by decide +kernel
theorem dX5_firstFault_90 : decode cX5_firstFault 90 = .ok (.if_icmp .ne 7, 3) := by decide +kernel
theorem dX5_firstFault_93 : decode cX5_firstFault 93 = .ok (.iconst 1, 1) := by decide +kernel
theorem dX5_firstFault_94 : decode cX5_firstFault 94 = .ok (.goto 4, 3) := by decide +kernel
theorem dX5_firstFault_97 : decode cX5_firstFault 97 = .ok (.iconst 0, 1) := by decide +kernel
theorem dX5_firstFault_98 : decode cX5_firstFault 98 = .ok (.istore_n 2, 1) := by decide +kernel
theorem dX5_firstFault_99 : decode cX5_firstFault 99 = .ok (.iinc 3 1, 3) := by decide +kernel
theorem dX5_firstFault_102 : decode cX5_firstFault 102 = .ok (.goto (-96), 3) := by decide +kernel
theorem dX5_firstFault_105 : decode cX5_firstFault 105 = .ok (.iload_n 1, 1) := by decide +kernel
theorem dX5_firstFault_106 : decode cX5_firstFault 106 = .ok (.ifCond .le 10, 3) := by decide +kernel
theorem dX5_firstFault_109 : decode cX5_firstFault 109 = .ok (.aload_n 0, 1) := by decide +kernel
theorem dX5_firstFault_110 : decode cX5_firstFault 110 = .ok (.getfield 15, 3) := by decide +kernel
theorem dX5_firstFault_113 : decode cX5_firstFault 113 = .ok (.goto 5, 3) := by decide +kernel
theorem dX5_firstFault_116 : decode cX5_firstFault 116 = .ok (.bipush (-6), 2) := by decide +kernel
theorem dX5_firstFault_118 : decode cX5_firstFault 118 = .ok (.ireturn, 1) := by decide +kernel
theorem dX5_partsOf_0 : decode cX5_partsOf 0 = .ok (.iload_n 0, 1) := by decide +kernel
theorem dX5_partsOf_1 : decode cX5_partsOf 1 = .ok (.lookupswitch 105 #[(43, 101), (45, 101), (47, 103), (60, 103), (62, 103), (102, 99), (104, 99), (108, 99), (109, 99), (112, 99), (126, 101)], 99) := by decide +kernel
theorem dX5_partsOf_100 : decode cX5_partsOf 100 = .ok (.iconst 0, 1) := by decide +kernel
theorem dX5_partsOf_101 : decode cX5_partsOf 101 = .ok (.ireturn, 1) := by decide +kernel
theorem dX5_partsOf_102 : decode cX5_partsOf 102 = .ok (.iconst 1, 1) := by decide +kernel
theorem dX5_partsOf_103 : decode cX5_partsOf 103 = .ok (.ireturn, 1) := by decide +kernel
theorem dX5_partsOf_104 : decode cX5_partsOf 104 = .ok (.iconst 2, 1) := by decide +kernel
theorem dX5_partsOf_105 : decode cX5_partsOf 105 = .ok (.ireturn, 1) := by decide +kernel
theorem dX5_partsOf_106 : decode cX5_partsOf 106 = .ok (.iconst (-1), 1) := by decide +kernel
theorem dX5_partsOf_107 : decode cX5_partsOf 107 = .ok (.ireturn, 1) := by decide +kernel
set_option maxRecDepth 20000 in
theorem ggX6_init_X4_init : GoodIn wsX6_init wsX4_init := goodIn_r _ [13, 14, 2, 3, 8, 15, 16, 17, 18] (by decide +kernel) (by decide +kernel)
set_option maxRecDepth 20000 in
theorem gX6_init_X4_init : GoodIn wsX6_init (wsX4_init) := ggX6_init_X4_init
theorem dX6_init_0 : decode cX6_init 0 = .ok (.aload_n 0, 1) := by decide +kernel
theorem dX6_init_1 : decode cX6_init 1 = .ok (.invokespecial 3, 3) := by decide +kernel
theorem dX6_init_4 : decode cX6_init 4 = .ok (.aload_n 0, 1) := by decide +kernel
theorem dX6_init_5 : decode cX6_init 5 = .ok (.new 9, 3) := by decide +kernel
theorem dX6_init_8 : decode cX6_init 8 = .ok (.dup, 1) := by decide +kernel
theorem dX6_init_9 : decode cX6_init 9 = .ok (.invokespecial 11, 3) := by decide +kernel
theorem dX6_init_12 : decode cX6_init 12 = .ok (.putfield 12, 3) := by decide +kernel
theorem dX6_init_15 : decode cX6_init 15 = .ok (.aload_n 0, 1) := by decide +kernel
theorem dX6_init_16 : decode cX6_init 16 = .ok (.bipush 24, 2) := by decide +kernel
theorem dX6_init_18 : decode cX6_init 18 = .ok (.newarray .int, 2) := by decide +kernel
theorem dX6_init_20 : decode cX6_init 20 = .ok (.putfield 18, 3) := by decide +kernel
theorem dX6_init_23 : decode cX6_init 23 = .ok (.aload_n 0, 1) := by decide +kernel
theorem dX6_init_24 : decode cX6_init 24 = .ok (.aload_n 1, 1) := by decide +kernel
theorem dX6_init_25 : decode cX6_init 25 = .ok (.putfield 22, 3) := by decide +kernel
theorem dX6_init_28 : decode cX6_init 28 = .ok (.return_, 1) := by decide +kernel
set_option maxRecDepth 20000 in
theorem ggX6_follow_J7_fill_53178 : GoodIn wsX6_follow wsJ7_fill_53178 := goodIn_r _ [11] (by decide +kernel) (by decide +kernel)
set_option maxRecDepth 20000 in
theorem gX6_follow_J7_fill_53178 : GoodIn wsX6_follow (va_wsS RX6 26 yJ7_fill_53178 wsJ7_fill_53178) := goodIn_app (goodIn_of _ (by decide +kernel)) ggX6_follow_J7_fill_53178
set_option maxRecDepth 20000 in
theorem ggX6_follow_X0_nextHour : GoodIn wsX6_follow wsX0_nextHour := goodIn_r _ [16, 17, 18, 19, 20, 21, 22, 23, 24, 25, 26, 27, 28, 29, 30, 31, 32, 33, 34, 15, 35, 36, 37, 38, 39, 40, 41, 42, 43, 44, 45, 46, 47, 48, 49, 50, 51, 52, 53, 54, 55, 56, 63, 64, 65, 66, 67, 68, 69, 70, 71, 72, 73, 74, 75, 76, 77, 78] (by decide +kernel) (by decide +kernel)
set_option maxRecDepth 20000 in
theorem gX6_follow_X0_nextHour : GoodIn wsX6_follow (wsV RX6 43 RX0 yX0_nextHour wsX0_nextHour) := goodIn_app (goodIn_of _ (by decide +kernel)) ggX6_follow_X0_nextHour
theorem dX6_follow_0 : decode cX6_follow 0 = .ok (.aload_n 0, 1) := by decide +kernel
theorem dX6_follow_1 : decode cX6_follow 1 = .ok (.getfield 18, 3) := by decide +kernel
theorem dX6_follow_4 : decode cX6_follow 4 = .ok (.iconst (-1), 1) := by decide +kernel
theorem dX6_follow_5 : decode cX6_follow 5 = .ok (.invokestatic 26, 3) := by decide +kernel
theorem dX6_follow_8 : decode cX6_follow 8 = .ok (.iload_n 2, 1) := by decide +kernel
theorem dX6_follow_9 : decode cX6_follow 9 = .ok (.istore_n 3, 1) := by decide +kernel
theorem dX6_follow_10 : decode cX6_follow 10 = .ok (.iconst 0, 1) := by decide +kernel
theorem dX6_follow_11 : decode cX6_follow 11 = .ok (.istore 4, 2) := by decide +kernel
theorem dX6_follow_13 : decode cX6_follow 13 = .ok (.iload 4, 2) := by decide +kernel
theorem dX6_follow_15 : decode cX6_follow 15 = .ok (.bipush 24, 2) := by decide +kernel
theorem dX6_follow_17 : decode cX6_follow 17 = .ok (.if_icmp .ge 47, 3) := by decide +kernel
theorem dX6_follow_20 : decode cX6_follow 20 = .ok (.aload_n 0, 1) := by decide +kernel
theorem dX6_follow_21 : decode cX6_follow 21 = .ok (.getfield 18, 3) := by decide +kernel
theorem dX6_follow_24 : decode cX6_follow 24 = .ok (.iload_n 3, 1) := by decide +kernel
theorem dX6_follow_25 : decode cX6_follow 25 = .ok (.iaload, 1) := by decide +kernel
theorem dX6_follow_26 : decode cX6_follow 26 = .ok (.ifCond .ge 38, 3) := by decide +kernel
theorem dX6_follow_29 : decode cX6_follow 29 = .ok (.aload_n 0, 1) := by decide +kernel
theorem dX6_follow_30 : decode cX6_follow 30 = .ok (.getfield 18, 3) := by decide +kernel
theorem dX6_follow_33 : decode cX6_follow 33 = .ok (.iload_n 3, 1) := by decide +kernel
theorem dX6_follow_34 : decode cX6_follow 34 = .ok (.iload 4, 2) := by decide +kernel
theorem dX6_follow_36 : decode cX6_follow 36 = .ok (.iastore, 1) := by decide +kernel
theorem dX6_follow_37 : decode cX6_follow 37 = .ok (.iinc 4 1, 3) := by decide +kernel
theorem dX6_follow_40 : decode cX6_follow 40 = .ok (.aload_n 0, 1) := by decide +kernel
theorem dX6_follow_41 : decode cX6_follow 41 = .ok (.getfield 22, 3) := by decide +kernel
theorem dX6_follow_44 : decode cX6_follow 44 = .ok (.aload_n 1, 1) := by decide +kernel
theorem dX6_follow_45 : decode cX6_follow 45 = .ok (.iload_n 3, 1) := by decide +kernel
theorem dX6_follow_46 : decode cX6_follow 46 = .ok (.aload_n 0, 1) := by decide +kernel
theorem dX6_follow_47 : decode cX6_follow 47 = .ok (.getfield 22, 3) := by decide +kernel
theorem dX6_follow_50 : decode cX6_follow 50 = .ok (.getfield 32, 3) := by decide +kernel
theorem dX6_follow_53 : decode cX6_follow 53 = .ok (.getfield 38, 3) := by decide +kernel
theorem dX6_follow_56 : decode cX6_follow 56 = .ok (.iconst 0, 1) := by decide +kernel
theorem dX6_follow_57 : decode cX6_follow 57 = .ok (.invokevirtual 43, 3) := by decide +kernel
theorem dX6_follow_60 : decode cX6_follow 60 = .ok (.istore_n 3, 1) := by decide +kernel
theorem dX6_follow_61 : decode cX6_follow 61 = .ok (.goto (-48), 3) := by decide +kernel
theorem dX6_follow_64 : decode cX6_follow 64 = .ok (.aload_n 0, 1) := by decide +kernel
theorem dX6_follow_65 : decode cX6_follow 65 = .ok (.aload_n 0, 1) := by decide +kernel
theorem dX6_follow_66 : decode cX6_follow 66 = .ok (.getfield 18, 3) := by decide +kernel
theorem dX6_follow_69 : decode cX6_follow 69 = .ok (.iload_n 3, 1) := by decide +kernel
theorem dX6_follow_70 : decode cX6_follow 70 = .ok (.iaload, 1) := by decide +kernel
theorem dX6_follow_71 : decode cX6_follow 71 = .ok (.putfield 47, 3) := by decide +kernel
theorem dX6_follow_74 : decode cX6_follow 74 = .ok (.aload_n 0, 1) := by decide +kernel
theorem dX6_follow_75 : decode cX6_follow 75 = .ok (.iload 4, 2) := by decide +kernel
theorem dX6_follow_77 : decode cX6_follow 77 = .ok (.aload_n 0, 1) := by decide +kernel
theorem dX6_follow_78 : decode cX6_follow 78 = .ok (.getfield 47, 3) := by decide +kernel
theorem dX6_follow_81 : decode cX6_follow 81 = .ok (.isub, 1) := by decide +kernel
theorem dX6_follow_82 : decode cX6_follow 82 = .ok (.putfield 51, 3) := by decide +kernel
theorem dX6_follow_85 : decode cX6_follow 85 = .ok (.aload_n 0, 1) := by decide +kernel
theorem dX6_follow_86 : decode cX6_follow 86 = .ok (.iload_n 3, 1) := by decide +kernel
theorem dX6_follow_87 : decode cX6_follow 87 = .ok (.putfield 54, 3) := by decide +kernel
theorem dX6_follow_90 : decode cX6_follow 90 = .ok (.iconst 0, 1) := by decide +kernel
theorem dX6_follow_91 : decode cX6_follow 91 = .ok (.istore 5, 2) := by decide +kernel
theorem dX6_follow_93 : decode cX6_follow 93 = .ok (.iload 5, 2) := by decide +kernel
theorem dX6_follow_95 : decode cX6_follow 95 = .ok (.aload_n 0, 1) := by decide +kernel
theorem dX6_follow_96 : decode cX6_follow 96 = .ok (.getfield 54, 3) := by decide +kernel
theorem dX6_follow_99 : decode cX6_follow 99 = .ok (.if_icmp .ge 29, 3) := by decide +kernel
theorem dX6_follow_102 : decode cX6_follow 102 = .ok (.aload_n 0, 1) := by decide +kernel
theorem dX6_follow_103 : decode cX6_follow 103 = .ok (.getfield 18, 3) := by decide +kernel
theorem dX6_follow_106 : decode cX6_follow 106 = .ok (.iload 5, 2) := by decide +kernel
theorem dX6_follow_108 : decode cX6_follow 108 = .ok (.iaload, 1) := by decide +kernel
theorem dX6_follow_109 : decode cX6_follow 109 = .ok (.aload_n 0, 1) := by decide +kernel
theorem dX6_follow_110 : decode cX6_follow 110 = .ok (.getfield 47, 3) := by decide +kernel
theorem dX6_follow_113 : decode cX6_follow 113 = .ok (.if_icmp .lt 9, 3) := by decide +kernel
theorem dX6_follow_116 : decode cX6_follow 116 = .ok (.aload_n 0, 1) := by decide +kernel
theorem dX6_follow_117 : decode cX6_follow 117 = .ok (.iload 5, 2) := by decide +kernel
theorem dX6_follow_119 : decode cX6_follow 119 = .ok (.putfield 54, 3) := by decide +kernel
theorem dX6_follow_122 : decode cX6_follow 122 = .ok (.iinc 5 1, 3) := by decide +kernel
theorem dX6_follow_125 : decode cX6_follow 125 = .ok (.goto (-32), 3) := by decide +kernel
theorem dX6_follow_128 : decode cX6_follow 128 = .ok (.return_, 1) := by decide +kernel
set_option maxRecDepth 20000 in
theorem ggX6_bestToldLaw_X6_restUnder : GoodIn wsX6_bestToldLaw wsX6_restUnder := goodIn_r _ [8, 9, 10, 11, 12, 13, 14, 15, 16, 17, 18, 19, 20, 21, 22, 23, 24, 7, 25, 26, 2, 3, 27, 28, 29, 30, 31, 32, 33, 34, 35, 36, 37, 38, 39, 40, 41, 42, 43, 44, 45, 46, 47, 48, 49, 50, 51, 52, 53, 54, 55, 56, 57, 58, 59, 60, 61, 62, 63, 64, 65, 66, 67, 68, 69, 70, 71, 72, 73, 74, 75, 76, 77, 88, 89, 90, 91, 92, 93, 99, 100, 94, 95, 96, 97, 98, 101, 102, 103, 104, 105, 106, 107, 108, 109] (by decide +kernel) (by decide +kernel)
set_option maxRecDepth 20000 in
theorem gX6_bestToldLaw_X6_restUnder : GoodIn wsX6_bestToldLaw (wsV RX6 58 RX6 yX6_restUnder wsX6_restUnder) := goodIn_app (goodIn_of _ (by decide +kernel)) ggX6_bestToldLaw_X6_restUnder
set_option maxRecDepth 20000 in
theorem ggX6_bestToldLaw_X3_farFromBest : GoodIn wsX6_bestToldLaw wsX3_farFromBest := goodIn_r _ [82, 83, 84, 85, 86, 43, 87, 101, 102, 103, 104, 105, 106, 107, 108, 109] (by decide +kernel) (by decide +kernel)
set_option maxRecDepth 20000 in
theorem gX6_bestToldLaw_X3_farFromBest : GoodIn wsX6_bestToldLaw (wsV RX6 62 RX3 yX3_farFromBest wsX3_farFromBest) := goodIn_app (goodIn_of _ (by decide +kernel)) ggX6_bestToldLaw_X3_farFromBest
theorem dX6_bestToldLaw_0 : decode cX6_bestToldLaw 0 = .ok (.bipush (-6), 2) := by decide +kernel
theorem dX6_bestToldLaw_2 : decode cX6_bestToldLaw 2 = .ok (.istore_n 2, 1) := by decide +kernel
theorem dX6_bestToldLaw_3 : decode cX6_bestToldLaw 3 = .ok (.ldc 57, 2) := by decide +kernel
theorem dX6_bestToldLaw_5 : decode cX6_bestToldLaw 5 = .ok (.istore_n 3, 1) := by decide +kernel
theorem dX6_bestToldLaw_6 : decode cX6_bestToldLaw 6 = .ok (.iconst 0, 1) := by decide +kernel
theorem dX6_bestToldLaw_7 : decode cX6_bestToldLaw 7 = .ok (.istore 4, 2) := by decide +kernel
theorem dX6_bestToldLaw_9 : decode cX6_bestToldLaw 9 = .ok (.iload 4, 2) := by decide +kernel
theorem dX6_bestToldLaw_11 : decode cX6_bestToldLaw 11 = .ok (.bipush 24, 2) := by decide +kernel
theorem dX6_bestToldLaw_13 : decode cX6_bestToldLaw 13 = .ok (.if_icmp .ge 54, 3) := by decide +kernel
theorem dX6_bestToldLaw_16 : decode cX6_bestToldLaw 16 = .ok (.aload_n 0, 1) := by decide +kernel
theorem dX6_bestToldLaw_17 : decode cX6_bestToldLaw 17 = .ok (.iload 4, 2) := by decide +kernel
theorem dX6_bestToldLaw_19 : decode cX6_bestToldLaw 19 = .ok (.iload_n 1, 1) := by decide +kernel
theorem dX6_bestToldLaw_20 : decode cX6_bestToldLaw 20 = .ok (.invokevirtual 58, 3) := by decide +kernel
theorem dX6_bestToldLaw_23 : decode cX6_bestToldLaw 23 = .ok (.istore 5, 2) := by decide +kernel
theorem dX6_bestToldLaw_25 : decode cX6_bestToldLaw 25 = .ok (.iload 5, 2) := by decide +kernel
theorem dX6_bestToldLaw_27 : decode cX6_bestToldLaw 27 = .ok (.bipush (-6), 2) := by decide +kernel
theorem dX6_bestToldLaw_29 : decode cX6_bestToldLaw 29 = .ok (.if_icmp .ne 6, 3) := by decide +kernel
theorem dX6_bestToldLaw_32 : decode cX6_bestToldLaw 32 = .ok (.goto 29, 3) := by decide +kernel
theorem dX6_bestToldLaw_35 : decode cX6_bestToldLaw 35 = .ok (.aload_n 0, 1) := by decide +kernel
theorem dX6_bestToldLaw_36 : decode cX6_bestToldLaw 36 = .ok (.getfield 22, 3) := by decide +kernel
theorem dX6_bestToldLaw_39 : decode cX6_bestToldLaw 39 = .ok (.getfield 32, 3) := by decide +kernel
theorem dX6_bestToldLaw_42 : decode cX6_bestToldLaw 42 = .ok (.iload 5, 2) := by decide +kernel
theorem dX6_bestToldLaw_44 : decode cX6_bestToldLaw 44 = .ok (.invokevirtual 62, 3) := by decide +kernel
theorem dX6_bestToldLaw_47 : decode cX6_bestToldLaw 47 = .ok (.istore 6, 2) := by decide +kernel
theorem dX6_bestToldLaw_49 : decode cX6_bestToldLaw 49 = .ok (.iload 6, 2) := by decide +kernel
theorem dX6_bestToldLaw_51 : decode cX6_bestToldLaw 51 = .ok (.iload_n 3, 1) := by decide +kernel
theorem dX6_bestToldLaw_52 : decode cX6_bestToldLaw 52 = .ok (.if_icmp .ge 9, 3) := by decide +kernel
theorem dX6_bestToldLaw_55 : decode cX6_bestToldLaw 55 = .ok (.iload 6, 2) := by decide +kernel
theorem dX6_bestToldLaw_57 : decode cX6_bestToldLaw 57 = .ok (.istore_n 3, 1) := by decide +kernel
theorem dX6_bestToldLaw_58 : decode cX6_bestToldLaw 58 = .ok (.iload 4, 2) := by decide +kernel
theorem dX6_bestToldLaw_60 : decode cX6_bestToldLaw 60 = .ok (.istore_n 2, 1) := by decide +kernel
theorem dX6_bestToldLaw_61 : decode cX6_bestToldLaw 61 = .ok (.iinc 4 1, 3) := by decide +kernel
theorem dX6_bestToldLaw_64 : decode cX6_bestToldLaw 64 = .ok (.goto (-55), 3) := by decide +kernel
theorem dX6_bestToldLaw_67 : decode cX6_bestToldLaw 67 = .ok (.iload_n 2, 1) := by decide +kernel
theorem dX6_bestToldLaw_68 : decode cX6_bestToldLaw 68 = .ok (.ireturn, 1) := by decide +kernel
set_option maxRecDepth 20000 in
theorem ggX6_restUnder_X4_takeNumber : GoodIn wsX6_restUnder wsX4_takeNumber := goodIn_r _ [8, 9, 10, 11, 12, 7, 13, 79, 80] (by decide +kernel) (by decide +kernel)
set_option maxRecDepth 20000 in
theorem gX6_restUnder_X4_takeNumber : GoodIn wsX6_restUnder (wsV RX6 66 RX4 yX4_takeNumber wsX4_takeNumber) := goodIn_app (goodIn_of _ (by decide +kernel)) ggX6_restUnder_X4_takeNumber
set_option maxRecDepth 20000 in
theorem ggX6_restUnder_X6_follow : GoodIn wsX6_restUnder wsX6_follow := goodIn_r _ [18, 19, 20, 21, 22, 23, 2, 3, 24, 25, 26, 27, 28, 29, 30, 31, 32, 33, 34, 35, 36, 37, 38, 39, 40, 41, 42, 43, 44, 45, 46, 47, 48, 49, 50, 51, 52, 53, 54, 55, 56, 57, 58, 59, 60, 61, 62, 63, 64, 65, 66, 67, 68, 69, 70, 71, 72, 73, 74, 75, 76, 77, 78, 81, 82, 83, 84, 85, 86, 87, 88, 89, 90, 91, 92, 93, 94, 79, 80] (by decide +kernel) (by decide +kernel)
set_option maxRecDepth 20000 in
theorem gX6_restUnder_X6_follow : GoodIn wsX6_restUnder (wsV RX6 70 RX6 yX6_follow wsX6_follow) := goodIn_app (goodIn_of _ (by decide +kernel)) ggX6_restUnder_X6_follow
theorem dX6_restUnder_0 : decode cX6_restUnder 0 = .ok (.aload_n 0, 1) := by decide +kernel
theorem dX6_restUnder_1 : decode cX6_restUnder 1 = .ok (.getfield 12, 3) := by decide +kernel
theorem dX6_restUnder_4 : decode cX6_restUnder 4 = .ok (.iload_n 1, 1) := by decide +kernel
theorem dX6_restUnder_5 : decode cX6_restUnder 5 = .ok (.invokevirtual 66, 3) := by decide +kernel
theorem dX6_restUnder_8 : decode cX6_restUnder 8 = .ok (.aload_n 0, 1) := by decide +kernel
theorem dX6_restUnder_9 : decode cX6_restUnder 9 = .ok (.aload_n 0, 1) := by decide +kernel
theorem dX6_restUnder_10 : decode cX6_restUnder 10 = .ok (.getfield 12, 3) := by decide +kernel
theorem dX6_restUnder_13 : decode cX6_restUnder 13 = .ok (.iload_n 2, 1) := by decide +kernel
theorem dX6_restUnder_14 : decode cX6_restUnder 14 = .ok (.invokevirtual 70, 3) := by decide +kernel
theorem dX6_restUnder_17 : decode cX6_restUnder 17 = .ok (.aload_n 0, 1) := by decide +kernel
theorem dX6_restUnder_18 : decode cX6_restUnder 18 = .ok (.getfield 51, 3) := by decide +kernel
theorem dX6_restUnder_21 : decode cX6_restUnder 21 = .ok (.iconst 1, 1) := by decide +kernel
theorem dX6_restUnder_22 : decode cX6_restUnder 22 = .ok (.if_icmp .ne 10, 3) := by decide +kernel
theorem dX6_restUnder_25 : decode cX6_restUnder 25 = .ok (.aload_n 0, 1) := by decide +kernel
theorem dX6_restUnder_26 : decode cX6_restUnder 26 = .ok (.getfield 54, 3) := by decide +kernel
theorem dX6_restUnder_29 : decode cX6_restUnder 29 = .ok (.goto 5, 3) := by decide +kernel
theorem dX6_restUnder_32 : decode cX6_restUnder 32 = .ok (.bipush (-6), 2) := by decide +kernel
theorem dX6_restUnder_34 : decode cX6_restUnder 34 = .ok (.ireturn, 1) := by decide +kernel
set_option maxRecDepth 20000 in
theorem ggX7_init_X3_init : GoodIn wsX7_init wsX3_init := goodIn_r _ [31, 32, 2, 3, 33, 34, 35, 36, 37, 38, 39, 40, 41, 42, 43, 44, 45, 46, 47, 48, 49, 50, 51, 52, 53, 54, 93, 94, 95, 96, 97, 98, 99, 100, 101, 134, 135] (by decide +kernel) (by decide +kernel)
set_option maxRecDepth 20000 in
theorem gX7_init_X3_init : GoodIn wsX7_init (wsX3_init) := ggX7_init_X3_init
set_option maxRecDepth 20000 in
theorem ggX7_init_X0_init : GoodIn wsX7_init wsX0_init := goodIn_r _ [57, 58, 2, 3, 33, 59, 60, 61, 62, 102, 103, 104, 105, 106] (by decide +kernel) (by decide +kernel)
set_option maxRecDepth 20000 in
theorem gX7_init_X0_init : GoodIn wsX7_init (wsX0_init) := ggX7_init_X0_init
set_option maxRecDepth 20000 in
theorem ggX7_init_X5_init : GoodIn wsX7_init wsX5_init := goodIn_r _ [64, 65, 2, 3, 33, 66, 114, 115] (by decide +kernel) (by decide +kernel)
set_option maxRecDepth 20000 in
theorem gX7_init_X5_init_n27 : GoodIn wsX7_init (wsX5_init) := ggX7_init_X5_init
set_option maxRecDepth 20000 in
theorem ggX7_init_X6_init : GoodIn wsX7_init wsX6_init := goodIn_r _ [69, 70, 2, 3, 71, 38, 39, 72, 33, 73, 74, 75, 46, 47, 48, 49, 50, 134, 135, 116, 117, 118, 119, 120, 121] (by decide +kernel) (by decide +kernel)
set_option maxRecDepth 20000 in
theorem gX7_init_X6_init : GoodIn wsX7_init (wsX6_init) := ggX7_init_X6_init
set_option maxRecDepth 20000 in
theorem ggX7_init_X2_init : GoodIn wsX7_init wsX2_init := goodIn_r _ [78, 79, 2, 3, 80, 33, 81, 82, 83, 84, 122, 123, 124, 125] (by decide +kernel) (by decide +kernel)
set_option maxRecDepth 20000 in
theorem gX7_init_X2_init : GoodIn wsX7_init (wsX2_init) := ggX7_init_X2_init
set_option maxRecDepth 20000 in
theorem ggX7_init_X1_init : GoodIn wsX7_init wsX1_init := goodIn_r _ [87, 88, 2, 3, 89, 90, 91, 92, 126, 127, 128, 129, 130, 131, 132, 133] (by decide +kernel) (by decide +kernel)
set_option maxRecDepth 20000 in
theorem gX7_init_X1_init : GoodIn wsX7_init (wsX1_init) := ggX7_init_X1_init
theorem dX7_init_0 : decode cX7_init 0 = .ok (.aload_n 0, 1) := by decide +kernel
theorem dX7_init_1 : decode cX7_init 1 = .ok (.invokespecial 1, 3) := by decide +kernel
theorem dX7_init_4 : decode cX7_init 4 = .ok (.new 7, 3) := by decide +kernel
theorem dX7_init_7 : decode cX7_init 7 = .ok (.dup, 1) := by decide +kernel
theorem dX7_init_8 : decode cX7_init 8 = .ok (.invokespecial 9, 3) := by decide +kernel
theorem dX7_init_11 : decode cX7_init 11 = .ok (.astore_n 1, 1) := by decide +kernel
theorem dX7_init_12 : decode cX7_init 12 = .ok (.new 10, 3) := by decide +kernel
theorem dX7_init_15 : decode cX7_init 15 = .ok (.dup, 1) := by decide +kernel
theorem dX7_init_16 : decode cX7_init 16 = .ok (.aload_n 1, 1) := by decide +kernel
theorem dX7_init_17 : decode cX7_init 17 = .ok (.invokespecial 12, 3) := by decide +kernel
theorem dX7_init_20 : decode cX7_init 20 = .ok (.astore_n 2, 1) := by decide +kernel
theorem dX7_init_21 : decode cX7_init 21 = .ok (.aload_n 0, 1) := by decide +kernel
theorem dX7_init_22 : decode cX7_init 22 = .ok (.aload_n 1, 1) := by decide +kernel
theorem dX7_init_23 : decode cX7_init 23 = .ok (.putfield 15, 3) := by decide +kernel
theorem dX7_init_26 : decode cX7_init 26 = .ok (.aload_n 0, 1) := by decide +kernel
theorem dX7_init_27 : decode cX7_init 27 = .ok (.aload_n 2, 1) := by decide +kernel
theorem dX7_init_28 : decode cX7_init 28 = .ok (.putfield 21, 3) := by decide +kernel
theorem dX7_init_31 : decode cX7_init 31 = .ok (.aload_n 0, 1) := by decide +kernel
theorem dX7_init_32 : decode cX7_init 32 = .ok (.new 25, 3) := by decide +kernel
theorem dX7_init_35 : decode cX7_init 35 = .ok (.dup, 1) := by decide +kernel
theorem dX7_init_36 : decode cX7_init 36 = .ok (.invokespecial 27, 3) := by decide +kernel
theorem dX7_init_39 : decode cX7_init 39 = .ok (.putfield 28, 3) := by decide +kernel
theorem dX7_init_42 : decode cX7_init 42 = .ok (.aload_n 0, 1) := by decide +kernel
theorem dX7_init_43 : decode cX7_init 43 = .ok (.new 32, 3) := by decide +kernel
theorem dX7_init_46 : decode cX7_init 46 = .ok (.dup, 1) := by decide +kernel
theorem dX7_init_47 : decode cX7_init 47 = .ok (.aload_n 2, 1) := by decide +kernel
theorem dX7_init_48 : decode cX7_init 48 = .ok (.invokespecial 34, 3) := by decide +kernel
theorem dX7_init_51 : decode cX7_init 51 = .ok (.putfield 37, 3) := by decide +kernel
theorem dX7_init_54 : decode cX7_init 54 = .ok (.aload_n 0, 1) := by decide +kernel
theorem dX7_init_55 : decode cX7_init 55 = .ok (.new 41, 3) := by decide +kernel
theorem dX7_init_58 : decode cX7_init 58 = .ok (.dup, 1) := by decide +kernel
theorem dX7_init_59 : decode cX7_init 59 = .ok (.aload_n 2, 1) := by decide +kernel
theorem dX7_init_60 : decode cX7_init 60 = .ok (.invokespecial 43, 3) := by decide +kernel
theorem dX7_init_63 : decode cX7_init 63 = .ok (.putfield 44, 3) := by decide +kernel
theorem dX7_init_66 : decode cX7_init 66 = .ok (.aload_n 0, 1) := by decide +kernel
theorem dX7_init_67 : decode cX7_init 67 = .ok (.new 48, 3) := by decide +kernel
theorem dX7_init_70 : decode cX7_init 70 = .ok (.dup, 1) := by decide +kernel
theorem dX7_init_71 : decode cX7_init 71 = .ok (.aload_n 2, 1) := by decide +kernel
theorem dX7_init_72 : decode cX7_init 72 = .ok (.invokespecial 50, 3) := by decide +kernel
theorem dX7_init_75 : decode cX7_init 75 = .ok (.putfield 51, 3) := by decide +kernel
theorem dX7_init_78 : decode cX7_init 78 = .ok (.aload_n 0, 1) := by decide +kernel
theorem dX7_init_79 : decode cX7_init 79 = .ok (.iconst 2, 1) := by decide +kernel
theorem dX7_init_80 : decode cX7_init 80 = .ok (.anewarray 7, 3) := by decide +kernel
theorem dX7_init_83 : decode cX7_init 83 = .ok (.putfield 55, 3) := by decide +kernel
theorem dX7_init_86 : decode cX7_init 86 = .ok (.return_, 1) := by decide +kernel
set_option maxRecDepth 20000 in
theorem ggX7_members_X7_within : GoodIn wsX7_members wsX7_within := goodIn_r _ [6] (by decide +kernel) (by decide +kernel)
set_option maxRecDepth 20000 in
theorem gX7_members_X7_within : GoodIn wsX7_members (va_wsS RX7 59 yX7_within wsX7_within) := goodIn_app (goodIn_of _ (by decide +kernel)) ggX7_members_X7_within
set_option maxRecDepth 20000 in
theorem ggX7_members_X3_assemble : GoodIn wsX7_members wsX3_assemble := goodIn_r _ [11, 12, 13, 14, 15, 16, 17, 18, 19, 20, 28, 29, 30, 31, 32, 33, 34, 35, 36] (by decide +kernel) (by decide +kernel)
set_option maxRecDepth 20000 in
theorem gX7_members_X3_assemble : GoodIn wsX7_members (wsV RX7 67 RX3 yX3_assemble wsX3_assemble) := goodIn_app (goodIn_of _ (by decide +kernel)) ggX7_members_X3_assemble
theorem dX7_members_0 : decode cX7_members 0 = .ok (.iload_n 1, 1) := by decide +kernel
theorem dX7_members_1 : decode cX7_members 1 = .ok (.iconst 1, 1) := by decide +kernel
theorem dX7_members_2 : decode cX7_members 2 = .ok (.bipush 6, 2) := by decide +kernel
theorem dX7_members_4 : decode cX7_members 4 = .ok (.invokestatic 59, 3) := by decide +kernel
theorem dX7_members_7 : decode cX7_members 7 = .ok (.ifCond .ne 6, 3) := by decide +kernel
theorem dX7_members_10 : decode cX7_members 10 = .ok (.bipush (-2), 2) := by decide +kernel
theorem dX7_members_12 : decode cX7_members 12 = .ok (.ireturn, 1) := by decide +kernel
theorem dX7_members_13 : decode cX7_members 13 = .ok (.aload_n 0, 1) := by decide +kernel
theorem dX7_members_14 : decode cX7_members 14 = .ok (.getfield 15, 3) := by decide +kernel
theorem dX7_members_17 : decode cX7_members 17 = .ok (.getfield 63, 3) := by decide +kernel
theorem dX7_members_20 : decode cX7_members 20 = .ok (.istore_n 2, 1) := by decide +kernel
theorem dX7_members_21 : decode cX7_members 21 = .ok (.aload_n 0, 1) := by decide +kernel
theorem dX7_members_22 : decode cX7_members 22 = .ok (.getfield 15, 3) := by decide +kernel
theorem dX7_members_25 : decode cX7_members 25 = .ok (.iload_n 1, 1) := by decide +kernel
theorem dX7_members_26 : decode cX7_members 26 = .ok (.invokevirtual 67, 3) := by decide +kernel
theorem dX7_members_29 : decode cX7_members 29 = .ok (.iload_n 2, 1) := by decide +kernel
theorem dX7_members_30 : decode cX7_members 30 = .ok (.ireturn, 1) := by decide +kernel
set_option maxRecDepth 20000 in
theorem ggX7_member_X3_has : GoodIn wsX7_member wsX3_has := goodIn_r _ [6, 7, 26, 27, 28, 29, 30, 31, 32, 33, 34] (by decide +kernel) (by decide +kernel)
set_option maxRecDepth 20000 in
theorem gX7_member_X3_has : GoodIn wsX7_member (wsV RX7 71 RX3 yX3_has wsX3_has) := goodIn_app (goodIn_of _ (by decide +kernel)) ggX7_member_X3_has
set_option maxRecDepth 20000 in
theorem ggX7_member_X7_within : GoodIn wsX7_member wsX7_within := goodIn_r _ [11] (by decide +kernel) (by decide +kernel)
set_option maxRecDepth 20000 in
theorem gX7_member_X7_within : GoodIn wsX7_member (va_wsS RX7 59 yX7_within wsX7_within) := goodIn_app (goodIn_of _ (by decide +kernel)) ggX7_member_X7_within
set_option maxRecDepth 20000 in
theorem ggX7_member_X3_rowOf : GoodIn wsX7_member wsX3_rowOf := goodIn_r _ [15, 16, 17, 18, 26, 27, 28, 29, 30, 31, 32, 33, 34] (by decide +kernel) (by decide +kernel)
set_option maxRecDepth 20000 in
theorem gX7_member_X3_rowOf : GoodIn wsX7_member (wsV RX7 75 RX3 yX3_rowOf wsX3_rowOf) := goodIn_app (goodIn_of _ (by decide +kernel)) ggX7_member_X3_rowOf
theorem dX7_member_0 : decode cX7_member 0 = .ok (.aload_n 0, 1) := by decide +kernel
theorem dX7_member_1 : decode cX7_member 1 = .ok (.getfield 15, 3) := by decide +kernel
theorem dX7_member_4 : decode cX7_member 4 = .ok (.iload_n 1, 1) := by decide +kernel
theorem dX7_member_5 : decode cX7_member 5 = .ok (.invokevirtual 71, 3) := by decide +kernel
theorem dX7_member_8 : decode cX7_member 8 = .ok (.ifCond .ne 5, 3) := by decide +kernel
theorem dX7_member_11 : decode cX7_member 11 = .ok (.iconst (-1), 1) := by decide +kernel
theorem dX7_member_12 : decode cX7_member 12 = .ok (.ireturn, 1) := by decide +kernel
theorem dX7_member_13 : decode cX7_member 13 = .ok (.iload_n 2, 1) := by decide +kernel
theorem dX7_member_14 : decode cX7_member 14 = .ok (.iconst 0, 1) := by decide +kernel
theorem dX7_member_15 : decode cX7_member 15 = .ok (.iconst 2, 1) := by decide +kernel
theorem dX7_member_16 : decode cX7_member 16 = .ok (.invokestatic 59, 3) := by decide +kernel
theorem dX7_member_19 : decode cX7_member 19 = .ok (.ifCond .eq 22, 3) := by decide +kernel
theorem dX7_member_22 : decode cX7_member 22 = .ok (.iload_n 3, 1) := by decide +kernel
theorem dX7_member_23 : decode cX7_member 23 = .ok (.iconst 0, 1) := by decide +kernel
theorem dX7_member_24 : decode cX7_member 24 = .ok (.iload_n 2, 1) := by decide +kernel
theorem dX7_member_25 : decode cX7_member 25 = .ok (.iconst 1, 1) := by decide +kernel
theorem dX7_member_26 : decode cX7_member 26 = .ok (.if_icmp .ne 7, 3) := by decide +kernel
theorem dX7_member_29 : decode cX7_member 29 = .ok (.iconst 5, 1) := by decide +kernel
theorem dX7_member_30 : decode cX7_member 30 = .ok (.goto 5, 3) := by decide +kernel
theorem dX7_member_33 : decode cX7_member 33 = .ok (.bipush 23, 2) := by decide +kernel
theorem dX7_member_35 : decode cX7_member 35 = .ok (.invokestatic 59, 3) := by decide +kernel
theorem dX7_member_38 : decode cX7_member 38 = .ok (.ifCond .ne 6, 3) := by decide +kernel
theorem dX7_member_41 : decode cX7_member 41 = .ok (.bipush (-2), 2) := by decide +kernel
theorem dX7_member_43 : decode cX7_member 43 = .ok (.ireturn, 1) := by decide +kernel
theorem dX7_member_44 : decode cX7_member 44 = .ok (.aload_n 0, 1) := by decide +kernel
theorem dX7_member_45 : decode cX7_member 45 = .ok (.getfield 15, 3) := by decide +kernel
theorem dX7_member_48 : decode cX7_member 48 = .ok (.iload_n 2, 1) := by decide +kernel
theorem dX7_member_49 : decode cX7_member 49 = .ok (.invokevirtual 75, 3) := by decide +kernel
theorem dX7_member_52 : decode cX7_member 52 = .ok (.astore 4, 2) := by decide +kernel
theorem dX7_member_54 : decode cX7_member 54 = .ok (.aload 4, 2) := by decide +kernel
theorem dX7_member_56 : decode cX7_member 56 = .ok (.iload_n 1, 1) := by decide +kernel
theorem dX7_member_57 : decode cX7_member 57 = .ok (.iaload, 1) := by decide +kernel
theorem dX7_member_58 : decode cX7_member 58 = .ok (.istore 5, 2) := by decide +kernel
theorem dX7_member_60 : decode cX7_member 60 = .ok (.aload 4, 2) := by decide +kernel
theorem dX7_member_62 : decode cX7_member 62 = .ok (.iload_n 1, 1) := by decide +kernel
theorem dX7_member_63 : decode cX7_member 63 = .ok (.iload_n 3, 1) := by decide +kernel
theorem dX7_member_64 : decode cX7_member 64 = .ok (.iastore, 1) := by decide +kernel
theorem dX7_member_65 : decode cX7_member 65 = .ok (.iload 5, 2) := by decide +kernel
theorem dX7_member_67 : decode cX7_member 67 = .ok (.ireturn, 1) := by decide +kernel
set_option maxRecDepth 20000 in
theorem ggX7_fine_X7_within : GoodIn wsX7_fine wsX7_within := goodIn_r _ [6] (by decide +kernel) (by decide +kernel)
set_option maxRecDepth 20000 in
theorem gX7_fine_X7_within : GoodIn wsX7_fine (va_wsS RX7 59 yX7_within wsX7_within) := goodIn_app (goodIn_of _ (by decide +kernel)) ggX7_fine_X7_within
