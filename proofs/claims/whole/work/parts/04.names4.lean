theorem dX8_layTends_2 : decode cX8_layTends 2 = .ok (.iload_n 2, 1) := by decide +kernel
theorem dX8_layTends_3 : decode cX8_layTends 3 = .ok (.bipush 24, 2) := by decide +kernel
theorem dX8_layTends_5 : decode cX8_layTends 5 = .ok (.if_icmp .ge 17, 3) := by decide +kernel
theorem dX8_layTends_8 : decode cX8_layTends 8 = .ok (.aload_n 0, 1) := by decide +kernel
theorem dX8_layTends_9 : decode cX8_layTends 9 = .ok (.getfield 47, 3) := by decide +kernel
theorem dX8_layTends_12 : decode cX8_layTends 12 = .ok (.iload_n 2, 1) := by decide +kernel
theorem dX8_layTends_13 : decode cX8_layTends 13 = .ok (.bipush (-6), 2) := by decide +kernel
theorem dX8_layTends_15 : decode cX8_layTends 15 = .ok (.iastore, 1) := by decide +kernel
theorem dX8_layTends_16 : decode cX8_layTends 16 = .ok (.iinc 2 1, 3) := by decide +kernel
theorem dX8_layTends_19 : decode cX8_layTends 19 = .ok (.goto (-17), 3) := by decide +kernel
theorem dX8_layTends_22 : decode cX8_layTends 22 = .ok (.iload_n 1, 1) := by decide +kernel
theorem dX8_layTends_23 : decode cX8_layTends 23 = .ok (.istore_n 2, 1) := by decide +kernel
theorem dX8_layTends_24 : decode cX8_layTends 24 = .ok (.iconst 0, 1) := by decide +kernel
theorem dX8_layTends_25 : decode cX8_layTends 25 = .ok (.istore_n 3, 1) := by decide +kernel
theorem dX8_layTends_26 : decode cX8_layTends 26 = .ok (.aload_n 0, 1) := by decide +kernel
theorem dX8_layTends_27 : decode cX8_layTends 27 = .ok (.getfield 47, 3) := by decide +kernel
theorem dX8_layTends_30 : decode cX8_layTends 30 = .ok (.iload_n 2, 1) := by decide +kernel
theorem dX8_layTends_31 : decode cX8_layTends 31 = .ok (.iaload, 1) := by decide +kernel
theorem dX8_layTends_32 : decode cX8_layTends 32 = .ok (.ifCond .ge 22, 3) := by decide +kernel
theorem dX8_layTends_35 : decode cX8_layTends 35 = .ok (.aload_n 0, 1) := by decide +kernel
theorem dX8_layTends_36 : decode cX8_layTends 36 = .ok (.getfield 47, 3) := by decide +kernel
theorem dX8_layTends_39 : decode cX8_layTends 39 = .ok (.iload_n 2, 1) := by decide +kernel
theorem dX8_layTends_40 : decode cX8_layTends 40 = .ok (.iload_n 3, 1) := by decide +kernel
theorem dX8_layTends_41 : decode cX8_layTends 41 = .ok (.iastore, 1) := by decide +kernel
theorem dX8_layTends_42 : decode cX8_layTends 42 = .ok (.aload_n 0, 1) := by decide +kernel
theorem dX8_layTends_43 : decode cX8_layTends 43 = .ok (.iload_n 2, 1) := by decide +kernel
theorem dX8_layTends_44 : decode cX8_layTends 44 = .ok (.invokevirtual 111, 3) := by decide +kernel
theorem dX8_layTends_47 : decode cX8_layTends 47 = .ok (.istore_n 2, 1) := by decide +kernel
theorem dX8_layTends_48 : decode cX8_layTends 48 = .ok (.iinc 3 1, 3) := by decide +kernel
theorem dX8_layTends_51 : decode cX8_layTends 51 = .ok (.goto (-25), 3) := by decide +kernel
theorem dX8_layTends_54 : decode cX8_layTends 54 = .ok (.aload_n 0, 1) := by decide +kernel
theorem dX8_layTends_55 : decode cX8_layTends 55 = .ok (.aload_n 0, 1) := by decide +kernel
theorem dX8_layTends_56 : decode cX8_layTends 56 = .ok (.getfield 47, 3) := by decide +kernel
theorem dX8_layTends_59 : decode cX8_layTends 59 = .ok (.iload_n 2, 1) := by decide +kernel
theorem dX8_layTends_60 : decode cX8_layTends 60 = .ok (.iaload, 1) := by decide +kernel
theorem dX8_layTends_61 : decode cX8_layTends 61 = .ok (.putfield 123, 3) := by decide +kernel
theorem dX8_layTends_64 : decode cX8_layTends 64 = .ok (.aload_n 0, 1) := by decide +kernel
theorem dX8_layTends_65 : decode cX8_layTends 65 = .ok (.iload_n 3, 1) := by decide +kernel
theorem dX8_layTends_66 : decode cX8_layTends 66 = .ok (.aload_n 0, 1) := by decide +kernel
theorem dX8_layTends_67 : decode cX8_layTends 67 = .ok (.getfield 123, 3) := by decide +kernel
theorem dX8_layTends_70 : decode cX8_layTends 70 = .ok (.isub, 1) := by decide +kernel
theorem dX8_layTends_71 : decode cX8_layTends 71 = .ok (.putfield 126, 3) := by decide +kernel
theorem dX8_layTends_74 : decode cX8_layTends 74 = .ok (.aload_n 0, 1) := by decide +kernel
theorem dX8_layTends_75 : decode cX8_layTends 75 = .ok (.iload_n 2, 1) := by decide +kernel
theorem dX8_layTends_76 : decode cX8_layTends 76 = .ok (.putfield 129, 3) := by decide +kernel
theorem dX8_layTends_79 : decode cX8_layTends 79 = .ok (.iconst 0, 1) := by decide +kernel
theorem dX8_layTends_80 : decode cX8_layTends 80 = .ok (.istore 4, 2) := by decide +kernel
theorem dX8_layTends_82 : decode cX8_layTends 82 = .ok (.iload 4, 2) := by decide +kernel
theorem dX8_layTends_84 : decode cX8_layTends 84 = .ok (.aload_n 0, 1) := by decide +kernel
theorem dX8_layTends_85 : decode cX8_layTends 85 = .ok (.getfield 126, 3) := by decide +kernel
theorem dX8_layTends_88 : decode cX8_layTends 88 = .ok (.if_icmp .ge 35, 3) := by decide +kernel
theorem dX8_layTends_91 : decode cX8_layTends 91 = .ok (.aload_n 0, 1) := by decide +kernel
theorem dX8_layTends_92 : decode cX8_layTends 92 = .ok (.iload_n 2, 1) := by decide +kernel
theorem dX8_layTends_93 : decode cX8_layTends 93 = .ok (.aload_n 0, 1) := by decide +kernel
theorem dX8_layTends_94 : decode cX8_layTends 94 = .ok (.getfield 129, 3) := by decide +kernel
theorem dX8_layTends_97 : decode cX8_layTends 97 = .ok (.if_icmp .ge 7, 3) := by decide +kernel
theorem dX8_layTends_100 : decode cX8_layTends 100 = .ok (.iload_n 2, 1) := by decide +kernel
theorem dX8_layTends_101 : decode cX8_layTends 101 = .ok (.goto 7, 3) := by decide +kernel
theorem dX8_layTends_104 : decode cX8_layTends 104 = .ok (.aload_n 0, 1) := by decide +kernel
theorem dX8_layTends_105 : decode cX8_layTends 105 = .ok (.getfield 129, 3) := by decide +kernel
theorem dX8_layTends_108 : decode cX8_layTends 108 = .ok (.putfield 129, 3) := by decide +kernel
theorem dX8_layTends_111 : decode cX8_layTends 111 = .ok (.aload_n 0, 1) := by decide +kernel
theorem dX8_layTends_112 : decode cX8_layTends 112 = .ok (.iload_n 2, 1) := by decide +kernel
theorem dX8_layTends_113 : decode cX8_layTends 113 = .ok (.invokevirtual 111, 3) := by decide +kernel
theorem dX8_layTends_116 : decode cX8_layTends 116 = .ok (.istore_n 2, 1) := by decide +kernel
theorem dX8_layTends_117 : decode cX8_layTends 117 = .ok (.iinc 4 1, 3) := by decide +kernel
theorem dX8_layTends_120 : decode cX8_layTends 120 = .ok (.goto (-38), 3) := by decide +kernel
theorem dX8_layTends_123 : decode cX8_layTends 123 = .ok (.return_, 1) := by decide +kernel
set_option maxRecDepth 20000 in
theorem ggX8_tends_X8_isHour : GoodIn wsX8_tends wsX8_isHour := goodIn_r _ [7, 8, 9, 6, 10] (by decide +kernel) (by decide +kernel)
set_option maxRecDepth 20000 in
theorem gX8_tends_X8_isHour : GoodIn wsX8_tends (va_wsS RX8 114 yX8_isHour wsX8_isHour) := goodIn_app (goodIn_of _ (by decide +kernel)) ggX8_tends_X8_isHour
set_option maxRecDepth 20000 in
theorem ggX8_tends_X8_in : GoodIn wsX8_tends wsX8_in := goodIn_r _ [10] (by decide +kernel) (by decide +kernel)
set_option maxRecDepth 20000 in
theorem gX8_tends_X8_in : GoodIn wsX8_tends (va_wsS RX8 69 yX8_in wsX8_in) := goodIn_app (goodIn_of _ (by decide +kernel)) ggX8_tends_X8_in
set_option maxRecDepth 20000 in
theorem ggX8_tends_X8_asTold : GoodIn wsX8_tends wsX8_asTold := goodIn_r _ [14, 15, 16, 17, 54, 55, 56, 57, 58, 59, 60, 61, 62, 63, 64, 65, 66, 67, 68, 69, 70, 71, 72, 73, 74, 75, 76] (by decide +kernel) (by decide +kernel)
set_option maxRecDepth 20000 in
theorem gX8_tends_X8_asTold : GoodIn wsX8_tends (wsV RX8 117 RX8 yX8_asTold wsX8_asTold) := goodIn_app (goodIn_of _ (by decide +kernel)) ggX8_tends_X8_asTold
set_option maxRecDepth 20000 in
theorem ggX8_tends_X8_layTends : GoodIn wsX8_tends wsX8_layTends := goodIn_r _ [21, 22, 1, 2, 3, 23, 24, 25, 6, 26, 27, 28, 29, 30, 31, 32, 33, 34, 35, 36, 37, 38, 39, 40, 15, 16, 41, 42, 43, 8, 9, 10, 44, 45, 46, 47, 48, 49, 50, 51, 52, 53, 54, 55, 56, 57, 58, 59, 60, 61, 62, 63, 64, 65, 66, 67, 68, 69, 70, 71, 72, 73, 74, 75, 76] (by decide +kernel) (by decide +kernel)
set_option maxRecDepth 20000 in
theorem gX8_tends_X8_layTends : GoodIn wsX8_tends (wsV RX8 132 RX8 yX8_layTends wsX8_layTends) := goodIn_app (goodIn_of _ (by decide +kernel)) ggX8_tends_X8_layTends
theorem dX8_tends_0 : decode cX8_tends 0 = .ok (.iload_n 1, 1) := by decide +kernel
theorem dX8_tends_1 : decode cX8_tends 1 = .ok (.invokestatic 114, 3) := by decide +kernel
theorem dX8_tends_4 : decode cX8_tends 4 = .ok (.ifCond .eq 12, 3) := by decide +kernel
theorem dX8_tends_7 : decode cX8_tends 7 = .ok (.iload_n 2, 1) := by decide +kernel
theorem dX8_tends_8 : decode cX8_tends 8 = .ok (.iconst 0, 1) := by decide +kernel
theorem dX8_tends_9 : decode cX8_tends 9 = .ok (.iconst 2, 1) := by decide +kernel
theorem dX8_tends_10 : decode cX8_tends 10 = .ok (.invokestatic 69, 3) := by decide +kernel
theorem dX8_tends_13 : decode cX8_tends 13 = .ok (.ifCond .ne 6, 3) := by decide +kernel
theorem dX8_tends_16 : decode cX8_tends 16 = .ok (.bipush (-2), 2) := by decide +kernel
theorem dX8_tends_18 : decode cX8_tends 18 = .ok (.ireturn, 1) := by decide +kernel
theorem dX8_tends_19 : decode cX8_tends 19 = .ok (.aload_n 0, 1) := by decide +kernel
theorem dX8_tends_20 : decode cX8_tends 20 = .ok (.invokevirtual 117, 3) := by decide +kernel
theorem dX8_tends_23 : decode cX8_tends 23 = .ok (.aload_n 0, 1) := by decide +kernel
theorem dX8_tends_24 : decode cX8_tends 24 = .ok (.iload_n 1, 1) := by decide +kernel
theorem dX8_tends_25 : decode cX8_tends 25 = .ok (.invokevirtual 132, 3) := by decide +kernel
theorem dX8_tends_28 : decode cX8_tends 28 = .ok (.iload_n 2, 1) := by decide +kernel
theorem dX8_tends_29 : decode cX8_tends 29 = .ok (.ifCond .ne 10, 3) := by decide +kernel
theorem dX8_tends_32 : decode cX8_tends 32 = .ok (.aload_n 0, 1) := by decide +kernel
theorem dX8_tends_33 : decode cX8_tends 33 = .ok (.getfield 123, 3) := by decide +kernel
theorem dX8_tends_36 : decode cX8_tends 36 = .ok (.goto 19, 3) := by decide +kernel
theorem dX8_tends_39 : decode cX8_tends 39 = .ok (.iload_n 2, 1) := by decide +kernel
theorem dX8_tends_40 : decode cX8_tends 40 = .ok (.iconst 1, 1) := by decide +kernel
theorem dX8_tends_41 : decode cX8_tends 41 = .ok (.if_icmp .ne 10, 3) := by decide +kernel
theorem dX8_tends_44 : decode cX8_tends 44 = .ok (.aload_n 0, 1) := by decide +kernel
theorem dX8_tends_45 : decode cX8_tends 45 = .ok (.getfield 126, 3) := by decide +kernel
theorem dX8_tends_48 : decode cX8_tends 48 = .ok (.goto 7, 3) := by decide +kernel
theorem dX8_tends_51 : decode cX8_tends 51 = .ok (.aload_n 0, 1) := by decide +kernel
theorem dX8_tends_52 : decode cX8_tends 52 = .ok (.getfield 129, 3) := by decide +kernel
theorem dX8_tends_55 : decode cX8_tends 55 = .ok (.ireturn, 1) := by decide +kernel
set_option maxRecDepth 20000 in
theorem ggX8_paid_X8_isMember : GoodIn wsX8_paid wsX8_isMember := goodIn_r _ [7, 8, 9, 10, 6, 11, 12, 13, 14, 15, 16, 17, 18, 19, 20, 21, 22, 23, 24, 25, 26, 27, 28, 29, 30, 31, 32, 33, 34] (by decide +kernel) (by decide +kernel)
set_option maxRecDepth 20000 in
theorem gX8_paid_X8_isMember : GoodIn wsX8_paid (wsV RX8 73 RX8 yX8_isMember wsX8_isMember) := goodIn_app (goodIn_of _ (by decide +kernel)) ggX8_paid_X8_isMember
set_option maxRecDepth 20000 in
theorem ggX8_paid_X8_in : GoodIn wsX8_paid wsX8_in := goodIn_r _ [11] (by decide +kernel) (by decide +kernel)
set_option maxRecDepth 20000 in
theorem gX8_paid_X8_in : GoodIn wsX8_paid (va_wsS RX8 69 yX8_in wsX8_in) := goodIn_app (goodIn_of _ (by decide +kernel)) ggX8_paid_X8_in
theorem dX8_paid_0 : decode cX8_paid 0 = .ok (.aload_n 0, 1) := by decide +kernel
theorem dX8_paid_1 : decode cX8_paid 1 = .ok (.iload_n 1, 1) := by decide +kernel
theorem dX8_paid_2 : decode cX8_paid 2 = .ok (.invokevirtual 73, 3) := by decide +kernel
theorem dX8_paid_5 : decode cX8_paid 5 = .ok (.ifCond .ne 5, 3) := by decide +kernel
theorem dX8_paid_8 : decode cX8_paid 8 = .ok (.iconst (-1), 1) := by decide +kernel
theorem dX8_paid_9 : decode cX8_paid 9 = .ok (.ireturn, 1) := by decide +kernel
theorem dX8_paid_10 : decode cX8_paid 10 = .ok (.iload_n 2, 1) := by decide +kernel
theorem dX8_paid_11 : decode cX8_paid 11 = .ok (.iconst 0, 1) := by decide +kernel
theorem dX8_paid_12 : decode cX8_paid 12 = .ok (.bipush 99, 2) := by decide +kernel
theorem dX8_paid_14 : decode cX8_paid 14 = .ok (.invokestatic 69, 3) := by decide +kernel
theorem dX8_paid_17 : decode cX8_paid 17 = .ok (.ifCond .eq 19, 3) := by decide +kernel
theorem dX8_paid_20 : decode cX8_paid 20 = .ok (.aload_n 0, 1) := by decide +kernel
theorem dX8_paid_21 : decode cX8_paid 21 = .ok (.getfield 23, 3) := by decide +kernel
theorem dX8_paid_24 : decode cX8_paid 24 = .ok (.aload_n 0, 1) := by decide +kernel
theorem dX8_paid_25 : decode cX8_paid 25 = .ok (.getfield 17, 3) := by decide +kernel
theorem dX8_paid_28 : decode cX8_paid 28 = .ok (.iload_n 1, 1) := by decide +kernel
theorem dX8_paid_29 : decode cX8_paid 29 = .ok (.iaload, 1) := by decide +kernel
theorem dX8_paid_30 : decode cX8_paid 30 = .ok (.imul, 1) := by decide +kernel
theorem dX8_paid_31 : decode cX8_paid 31 = .ok (.iload_n 2, 1) := by decide +kernel
theorem dX8_paid_32 : decode cX8_paid 32 = .ok (.imul, 1) := by decide +kernel
theorem dX8_paid_33 : decode cX8_paid 33 = .ok (.goto 5, 3) := by decide +kernel
theorem dX8_paid_36 : decode cX8_paid 36 = .ok (.bipush (-2), 2) := by decide +kernel
theorem dX8_paid_38 : decode cX8_paid 38 = .ok (.ireturn, 1) := by decide +kernel
theorem dX8_apart_0 : decode cX8_apart 0 = .ok (.iload_n 0, 1) := by decide +kernel
theorem dX8_apart_1 : decode cX8_apart 1 = .ok (.iload_n 1, 1) := by decide +kernel
theorem dX8_apart_2 : decode cX8_apart 2 = .ok (.if_icmp .le 9, 3) := by decide +kernel
theorem dX8_apart_5 : decode cX8_apart 5 = .ok (.iload_n 0, 1) := by decide +kernel
theorem dX8_apart_6 : decode cX8_apart 6 = .ok (.iload_n 1, 1) := by decide +kernel
theorem dX8_apart_7 : decode cX8_apart 7 = .ok (.isub, 1) := by decide +kernel
theorem dX8_apart_8 : decode cX8_apart 8 = .ok (.goto 6, 3) := by decide +kernel
theorem dX8_apart_11 : decode cX8_apart 11 = .ok (.iload_n 1, 1) := by decide +kernel
theorem dX8_apart_12 : decode cX8_apart 12 = .ok (.iload_n 0, 1) := by decide +kernel
theorem dX8_apart_13 : decode cX8_apart 13 = .ok (.isub, 1) := by decide +kernel
theorem dX8_apart_14 : decode cX8_apart 14 = .ok (.ireturn, 1) := by decide +kernel
set_option maxRecDepth 20000 in
theorem ggX8_contentOf_X8_apart : GoodIn wsX8_contentOf wsX8_apart := goodIn_r _ [6] (by decide +kernel) (by decide +kernel)
set_option maxRecDepth 20000 in
theorem gX8_contentOf_X8_apart : GoodIn wsX8_contentOf (va_wsS RX8 135 yX8_apart wsX8_apart) := goodIn_app (goodIn_of _ (by decide +kernel)) ggX8_contentOf_X8_apart
theorem dX8_contentOf_0 : decode cX8_contentOf 0 = .ok (.iconst 0, 1) := by decide +kernel
theorem dX8_contentOf_1 : decode cX8_contentOf 1 = .ok (.istore_n 2, 1) := by decide +kernel
theorem dX8_contentOf_2 : decode cX8_contentOf 2 = .ok (.iconst 0, 1) := by decide +kernel
theorem dX8_contentOf_3 : decode cX8_contentOf 3 = .ok (.istore_n 3, 1) := by decide +kernel
theorem dX8_contentOf_4 : decode cX8_contentOf 4 = .ok (.iload_n 3, 1) := by decide +kernel
theorem dX8_contentOf_5 : decode cX8_contentOf 5 = .ok (.aload_n 0, 1) := by decide +kernel
theorem dX8_contentOf_6 : decode cX8_contentOf 6 = .ok (.getfield 7, 3) := by decide +kernel
theorem dX8_contentOf_9 : decode cX8_contentOf 9 = .ok (.if_icmp .ge 22, 3) := by decide +kernel
theorem dX8_contentOf_12 : decode cX8_contentOf 12 = .ok (.iload_n 2, 1) := by decide +kernel
theorem dX8_contentOf_13 : decode cX8_contentOf 13 = .ok (.iload_n 1, 1) := by decide +kernel
theorem dX8_contentOf_14 : decode cX8_contentOf 14 = .ok (.aload_n 0, 1) := by decide +kernel
theorem dX8_contentOf_15 : decode cX8_contentOf 15 = .ok (.getfield 20, 3) := by decide +kernel
theorem dX8_contentOf_18 : decode cX8_contentOf 18 = .ok (.iload_n 3, 1) := by decide +kernel
theorem dX8_contentOf_19 : decode cX8_contentOf 19 = .ok (.iaload, 1) := by decide +kernel
theorem dX8_contentOf_20 : decode cX8_contentOf 20 = .ok (.invokestatic 135, 3) := by decide +kernel
theorem dX8_contentOf_23 : decode cX8_contentOf 23 = .ok (.iadd, 1) := by decide +kernel
theorem dX8_contentOf_24 : decode cX8_contentOf 24 = .ok (.istore_n 2, 1) := by decide +kernel
theorem dX8_contentOf_25 : decode cX8_contentOf 25 = .ok (.iinc 3 1, 3) := by decide +kernel
theorem dX8_contentOf_28 : decode cX8_contentOf 28 = .ok (.goto (-24), 3) := by decide +kernel
theorem dX8_contentOf_31 : decode cX8_contentOf 31 = .ok (.iload_n 2, 1) := by decide +kernel
theorem dX8_contentOf_32 : decode cX8_contentOf 32 = .ok (.ireturn, 1) := by decide +kernel
set_option maxRecDepth 20000 in
theorem ggX8_content_X8_isHour : GoodIn wsX8_content wsX8_isHour := goodIn_r _ [4, 5, 6, 3, 7] (by decide +kernel) (by decide +kernel)
set_option maxRecDepth 20000 in
theorem gX8_content_X8_isHour : GoodIn wsX8_content (va_wsS RX8 114 yX8_isHour wsX8_isHour) := goodIn_app (goodIn_of _ (by decide +kernel)) ggX8_content_X8_isHour
set_option maxRecDepth 20000 in
theorem ggX8_content_X8_contentOf : GoodIn wsX8_content wsX8_contentOf := goodIn_r _ [11, 12, 13, 14, 15, 3, 16, 17, 18, 19, 20, 21, 22, 23, 24, 25, 26, 27, 28, 29, 30, 31, 32, 33, 34, 35, 36, 37, 38, 39] (by decide +kernel) (by decide +kernel)
set_option maxRecDepth 20000 in
theorem gX8_content_X8_contentOf : GoodIn wsX8_content (wsV RX8 138 RX8 yX8_contentOf wsX8_contentOf) := goodIn_app (goodIn_of _ (by decide +kernel)) ggX8_content_X8_contentOf
theorem dX8_content_0 : decode cX8_content 0 = .ok (.iload_n 1, 1) := by decide +kernel
theorem dX8_content_1 : decode cX8_content 1 = .ok (.invokestatic 114, 3) := by decide +kernel
theorem dX8_content_4 : decode cX8_content 4 = .ok (.ifCond .eq 11, 3) := by decide +kernel
theorem dX8_content_7 : decode cX8_content 7 = .ok (.aload_n 0, 1) := by decide +kernel
theorem dX8_content_8 : decode cX8_content 8 = .ok (.iload_n 1, 1) := by decide +kernel
theorem dX8_content_9 : decode cX8_content 9 = .ok (.invokevirtual 138, 3) := by decide +kernel
theorem dX8_content_12 : decode cX8_content 12 = .ok (.goto 5, 3) := by decide +kernel
theorem dX8_content_15 : decode cX8_content 15 = .ok (.bipush (-2), 2) := by decide +kernel
theorem dX8_content_17 : decode cX8_content 17 = .ok (.ireturn, 1) := by decide +kernel
set_option maxRecDepth 20000 in
theorem ggX8_choice_X8_isMember : GoodIn wsX8_choice wsX8_isMember := goodIn_r _ [9, 10, 11, 12, 8, 13, 56, 57, 58, 59, 60, 61, 62, 63, 64, 65, 66, 67, 68, 69, 70, 71, 72, 73, 74, 75, 76, 77, 78] (by decide +kernel) (by decide +kernel)
set_option maxRecDepth 20000 in
theorem gX8_choice_X8_isMember : GoodIn wsX8_choice (wsV RX8 73 RX8 yX8_isMember wsX8_isMember) := goodIn_app (goodIn_of _ (by decide +kernel)) ggX8_choice_X8_isMember
set_option maxRecDepth 20000 in
theorem ggX8_choice_X8_isHour : GoodIn wsX8_choice wsX8_isHour := goodIn_r _ [16, 11, 12, 8, 13] (by decide +kernel) (by decide +kernel)
set_option maxRecDepth 20000 in
theorem gX8_choice_X8_isHour : GoodIn wsX8_choice (va_wsS RX8 114 yX8_isHour wsX8_isHour) := goodIn_app (goodIn_of _ (by decide +kernel)) ggX8_choice_X8_isHour
set_option maxRecDepth 20000 in
theorem ggX8_choice_X8_in : GoodIn wsX8_choice wsX8_in := goodIn_r _ [13] (by decide +kernel) (by decide +kernel)
set_option maxRecDepth 20000 in
theorem gX8_choice_X8_in : GoodIn wsX8_choice (va_wsS RX8 69 yX8_in wsX8_in) := goodIn_app (goodIn_of _ (by decide +kernel)) ggX8_choice_X8_in
set_option maxRecDepth 20000 in
theorem ggX8_choice_X8_asTold : GoodIn wsX8_choice wsX8_asTold := goodIn_r _ [20, 21, 2, 22, 56, 57, 58, 59, 60, 61, 62, 63, 64, 65, 66, 67, 68, 69, 70, 71, 72, 73, 74, 75, 76, 77, 78] (by decide +kernel) (by decide +kernel)
set_option maxRecDepth 20000 in
theorem gX8_choice_X8_asTold : GoodIn wsX8_choice (wsV RX8 117 RX8 yX8_asTold wsX8_asTold) := goodIn_app (goodIn_of _ (by decide +kernel)) ggX8_choice_X8_asTold
set_option maxRecDepth 20000 in
theorem ggX8_choice_X8_nextOf : GoodIn wsX8_choice wsX8_nextOf := goodIn_r _ [26, 27, 28, 29, 30, 31, 32, 8, 33, 10, 34, 35, 36, 37, 38, 39, 21, 2, 40, 41, 42, 11, 12, 13, 43, 44, 45, 46, 47, 48, 49, 50, 51, 52, 56, 57, 58, 59, 60, 61, 62, 63, 64, 65, 66, 67, 68, 69, 70, 71, 72, 73, 74, 75, 76, 77, 78] (by decide +kernel) (by decide +kernel)
set_option maxRecDepth 20000 in
theorem gX8_choice_X8_nextOf : GoodIn wsX8_choice (wsV RX8 111 RX8 yX8_nextOf wsX8_nextOf) := goodIn_app (goodIn_of _ (by decide +kernel)) ggX8_choice_X8_nextOf
set_option maxRecDepth 20000 in
theorem ggX8_choice_X8_apart : GoodIn wsX8_choice wsX8_apart := goodIn_r _ [55] (by decide +kernel) (by decide +kernel)
set_option maxRecDepth 20000 in
theorem gX8_choice_X8_apart : GoodIn wsX8_choice (va_wsS RX8 135 yX8_apart wsX8_apart) := goodIn_app (goodIn_of _ (by decide +kernel)) ggX8_choice_X8_apart
theorem dX8_choice_0 : decode cX8_choice 0 = .ok (.aload_n 0, 1) := by decide +kernel
theorem dX8_choice_1 : decode cX8_choice 1 = .ok (.iload_n 1, 1) := by decide +kernel
theorem dX8_choice_2 : decode cX8_choice 2 = .ok (.invokevirtual 73, 3) := by decide +kernel
theorem dX8_choice_5 : decode cX8_choice 5 = .ok (.ifCond .ne 5, 3) := by decide +kernel
theorem dX8_choice_8 : decode cX8_choice 8 = .ok (.iconst (-1), 1) := by decide +kernel
theorem dX8_choice_9 : decode cX8_choice 9 = .ok (.ireturn, 1) := by decide +kernel
theorem dX8_choice_10 : decode cX8_choice 10 = .ok (.iload_n 2, 1) := by decide +kernel
theorem dX8_choice_11 : decode cX8_choice 11 = .ok (.invokestatic 114, 3) := by decide +kernel
theorem dX8_choice_14 : decode cX8_choice 14 = .ok (.ifCond .eq 24, 3) := by decide +kernel
theorem dX8_choice_17 : decode cX8_choice 17 = .ok (.iload_n 3, 1) := by decide +kernel
theorem dX8_choice_18 : decode cX8_choice 18 = .ok (.iconst 1, 1) := by decide +kernel
theorem dX8_choice_19 : decode cX8_choice 19 = .ok (.iconst 4, 1) := by decide +kernel
theorem dX8_choice_20 : decode cX8_choice 20 = .ok (.invokestatic 69, 3) := by decide +kernel
theorem dX8_choice_23 : decode cX8_choice 23 = .ok (.ifCond .eq 15, 3) := by decide +kernel
theorem dX8_choice_26 : decode cX8_choice 26 = .ok (.iload 4, 2) := by decide +kernel
theorem dX8_choice_28 : decode cX8_choice 28 = .ok (.iconst (-1), 1) := by decide +kernel
theorem dX8_choice_29 : decode cX8_choice 29 = .ok (.iload_n 3, 1) := by decide +kernel
theorem dX8_choice_30 : decode cX8_choice 30 = .ok (.iconst 1, 1) := by decide +kernel
theorem dX8_choice_31 : decode cX8_choice 31 = .ok (.isub, 1) := by decide +kernel
theorem dX8_choice_32 : decode cX8_choice 32 = .ok (.invokestatic 69, 3) := by decide +kernel
theorem dX8_choice_35 : decode cX8_choice 35 = .ok (.ifCond .ne 6, 3) := by decide +kernel
theorem dX8_choice_38 : decode cX8_choice 38 = .ok (.bipush (-2), 2) := by decide +kernel
theorem dX8_choice_40 : decode cX8_choice 40 = .ok (.ireturn, 1) := by decide +kernel
theorem dX8_choice_41 : decode cX8_choice 41 = .ok (.aload_n 0, 1) := by decide +kernel
theorem dX8_choice_42 : decode cX8_choice 42 = .ok (.invokevirtual 117, 3) := by decide +kernel
theorem dX8_choice_45 : decode cX8_choice 45 = .ok (.iload_n 3, 1) := by decide +kernel
theorem dX8_choice_46 : decode cX8_choice 46 = .ok (.iconst 1, 1) := by decide +kernel
theorem dX8_choice_47 : decode cX8_choice 47 = .ok (.if_icmp .ne 8, 3) := by decide +kernel
theorem dX8_choice_50 : decode cX8_choice 50 = .ok (.bipush 6, 2) := by decide +kernel
theorem dX8_choice_52 : decode cX8_choice 52 = .ok (.goto 27, 3) := by decide +kernel
theorem dX8_choice_55 : decode cX8_choice 55 = .ok (.iload_n 3, 1) := by decide +kernel
theorem dX8_choice_56 : decode cX8_choice 56 = .ok (.iconst 2, 1) := by decide +kernel
theorem dX8_choice_57 : decode cX8_choice 57 = .ok (.if_icmp .ne 8, 3) := by decide +kernel
theorem dX8_choice_60 : decode cX8_choice 60 = .ok (.bipush 36, 2) := by decide +kernel
theorem dX8_choice_62 : decode cX8_choice 62 = .ok (.goto 17, 3) := by decide +kernel
theorem dX8_choice_65 : decode cX8_choice 65 = .ok (.iload_n 3, 1) := by decide +kernel
theorem dX8_choice_66 : decode cX8_choice 66 = .ok (.iconst 3, 1) := by decide +kernel
theorem dX8_choice_67 : decode cX8_choice 67 = .ok (.if_icmp .ne 9, 3) := by decide +kernel
theorem dX8_choice_70 : decode cX8_choice 70 = .ok (.sipush 216, 3) := by decide +kernel
theorem dX8_choice_73 : decode cX8_choice 73 = .ok (.goto 6, 3) := by decide +kernel
theorem dX8_choice_76 : decode cX8_choice 76 = .ok (.sipush 1296, 3) := by decide +kernel
theorem dX8_choice_79 : decode cX8_choice 79 = .ok (.istore 5, 2) := by decide +kernel
theorem dX8_choice_81 : decode cX8_choice 81 = .ok (.ldc 141, 2) := by decide +kernel
theorem dX8_choice_83 : decode cX8_choice 83 = .ok (.istore 6, 2) := by decide +kernel
theorem dX8_choice_85 : decode cX8_choice 85 = .ok (.iconst 0, 1) := by decide +kernel
theorem dX8_choice_86 : decode cX8_choice 86 = .ok (.istore 7, 2) := by decide +kernel
theorem dX8_choice_88 : decode cX8_choice 88 = .ok (.iconst 0, 1) := by decide +kernel
theorem dX8_choice_89 : decode cX8_choice 89 = .ok (.istore 8, 2) := by decide +kernel
theorem dX8_choice_91 : decode cX8_choice 91 = .ok (.iload 8, 2) := by decide +kernel
theorem dX8_choice_93 : decode cX8_choice 93 = .ok (.iload 5, 2) := by decide +kernel
theorem dX8_choice_95 : decode cX8_choice 95 = .ok (.if_icmp .ge 123, 3) := by decide +kernel
theorem dX8_choice_98 : decode cX8_choice 98 = .ok (.iload_n 2, 1) := by decide +kernel
theorem dX8_choice_99 : decode cX8_choice 99 = .ok (.istore 9, 2) := by decide +kernel
theorem dX8_choice_101 : decode cX8_choice 101 = .ok (.iconst 0, 1) := by decide +kernel
theorem dX8_choice_102 : decode cX8_choice 102 = .ok (.istore 10, 2) := by decide +kernel
theorem dX8_choice_104 : decode cX8_choice 104 = .ok (.iload 5, 2) := by decide +kernel
theorem dX8_choice_106 : decode cX8_choice 106 = .ok (.istore 11, 2) := by decide +kernel
theorem dX8_choice_108 : decode cX8_choice 108 = .ok (.iconst 0, 1) := by decide +kernel
theorem dX8_choice_109 : decode cX8_choice 109 = .ok (.istore 12, 2) := by decide +kernel
theorem dX8_choice_111 : decode cX8_choice 111 = .ok (.iload 12, 2) := by decide +kernel
theorem dX8_choice_113 : decode cX8_choice 113 = .ok (.iload_n 3, 1) := by decide +kernel
theorem dX8_choice_114 : decode cX8_choice 114 = .ok (.if_icmp .ge 66, 3) := by decide +kernel
theorem dX8_choice_117 : decode cX8_choice 117 = .ok (.iload 11, 2) := by decide +kernel
theorem dX8_choice_119 : decode cX8_choice 119 = .ok (.bipush 6, 2) := by decide +kernel
theorem dX8_choice_121 : decode cX8_choice 121 = .ok (.idiv, 1) := by decide +kernel
theorem dX8_choice_122 : decode cX8_choice 122 = .ok (.istore 11, 2) := by decide +kernel
theorem dX8_choice_124 : decode cX8_choice 124 = .ok (.aload_n 0, 1) := by decide +kernel
theorem dX8_choice_125 : decode cX8_choice 125 = .ok (.getfield 38, 3) := by decide +kernel
theorem dX8_choice_128 : decode cX8_choice 128 = .ok (.iload_n 1, 1) := by decide +kernel
theorem dX8_choice_129 : decode cX8_choice 129 = .ok (.iload 8, 2) := by decide +kernel
theorem dX8_choice_131 : decode cX8_choice 131 = .ok (.iload 11, 2) := by decide +kernel
theorem dX8_choice_133 : decode cX8_choice 133 = .ok (.idiv, 1) := by decide +kernel
theorem dX8_choice_134 : decode cX8_choice 134 = .ok (.bipush 6, 2) := by decide +kernel
theorem dX8_choice_136 : decode cX8_choice 136 = .ok (.irem, 1) := by decide +kernel
theorem dX8_choice_137 : decode cX8_choice 137 = .ok (.iastore, 1) := by decide +kernel
theorem dX8_choice_138 : decode cX8_choice 138 = .ok (.aload_n 0, 1) := by decide +kernel
theorem dX8_choice_139 : decode cX8_choice 139 = .ok (.iload 9, 2) := by decide +kernel
theorem dX8_choice_141 : decode cX8_choice 141 = .ok (.invokevirtual 111, 3) := by decide +kernel
theorem dX8_choice_144 : decode cX8_choice 144 = .ok (.istore 9, 2) := by decide +kernel
theorem dX8_choice_146 : decode cX8_choice 146 = .ok (.iload 10, 2) := by decide +kernel
theorem dX8_choice_148 : decode cX8_choice 148 = .ok (.iload 9, 2) := by decide +kernel
theorem dX8_choice_150 : decode cX8_choice 150 = .ok (.aload_n 0, 1) := by decide +kernel
theorem dX8_choice_151 : decode cX8_choice 151 = .ok (.getfield 20, 3) := by decide +kernel
theorem dX8_choice_154 : decode cX8_choice 154 = .ok (.iload_n 1, 1) := by decide +kernel
theorem dX8_choice_155 : decode cX8_choice 155 = .ok (.iaload, 1) := by decide +kernel
theorem dX8_choice_156 : decode cX8_choice 156 = .ok (.invokestatic 135, 3) := by decide +kernel
theorem dX8_choice_159 : decode cX8_choice 159 = .ok (.aload_n 0, 1) := by decide +kernel
theorem dX8_choice_160 : decode cX8_choice 160 = .ok (.getfield 23, 3) := by decide +kernel
theorem dX8_choice_163 : decode cX8_choice 163 = .ok (.aload_n 0, 1) := by decide +kernel
theorem dX8_choice_164 : decode cX8_choice 164 = .ok (.getfield 38, 3) := by decide +kernel
theorem dX8_choice_167 : decode cX8_choice 167 = .ok (.iload_n 1, 1) := by decide +kernel
theorem dX8_choice_168 : decode cX8_choice 168 = .ok (.iaload, 1) := by decide +kernel
theorem dX8_choice_169 : decode cX8_choice 169 = .ok (.imul, 1) := by decide +kernel
theorem dX8_choice_170 : decode cX8_choice 170 = .ok (.iadd, 1) := by decide +kernel
theorem dX8_choice_171 : decode cX8_choice 171 = .ok (.iadd, 1) := by decide +kernel
theorem dX8_choice_172 : decode cX8_choice 172 = .ok (.istore 10, 2) := by decide +kernel
theorem dX8_choice_174 : decode cX8_choice 174 = .ok (.iinc 12 1, 3) := by decide +kernel
theorem dX8_choice_177 : decode cX8_choice 177 = .ok (.goto (-66), 3) := by decide +kernel
theorem dX8_choice_180 : decode cX8_choice 180 = .ok (.iload 10, 2) := by decide +kernel
theorem dX8_choice_182 : decode cX8_choice 182 = .ok (.iload 6, 2) := by decide +kernel
theorem dX8_choice_184 : decode cX8_choice 184 = .ok (.if_icmp .ge 8, 3) := by decide +kernel
theorem dX8_choice_187 : decode cX8_choice 187 = .ok (.iload 8, 2) := by decide +kernel
theorem dX8_choice_189 : decode cX8_choice 189 = .ok (.goto 5, 3) := by decide +kernel
theorem dX8_choice_192 : decode cX8_choice 192 = .ok (.iload 7, 2) := by decide +kernel
theorem dX8_choice_194 : decode cX8_choice 194 = .ok (.istore 7, 2) := by decide +kernel
theorem dX8_choice_196 : decode cX8_choice 196 = .ok (.iload 10, 2) := by decide +kernel
theorem dX8_choice_198 : decode cX8_choice 198 = .ok (.iload 6, 2) := by decide +kernel
theorem dX8_choice_200 : decode cX8_choice 200 = .ok (.if_icmp .ge 8, 3) := by decide +kernel
theorem dX8_choice_203 : decode cX8_choice 203 = .ok (.iload 10, 2) := by decide +kernel
theorem dX8_choice_205 : decode cX8_choice 205 = .ok (.goto 5, 3) := by decide +kernel
theorem dX8_choice_208 : decode cX8_choice 208 = .ok (.iload 6, 2) := by decide +kernel
theorem dX8_choice_210 : decode cX8_choice 210 = .ok (.istore 6, 2) := by decide +kernel
theorem dX8_choice_212 : decode cX8_choice 212 = .ok (.iinc 8 1, 3) := by decide +kernel
theorem dX8_choice_215 : decode cX8_choice 215 = .ok (.goto (-124), 3) := by decide +kernel
theorem dX8_choice_218 : decode cX8_choice 218 = .ok (.iload 4, 2) := by decide +kernel
theorem dX8_choice_220 : decode cX8_choice 220 = .ok (.iconst (-1), 1) := by decide +kernel
theorem dX8_choice_221 : decode cX8_choice 221 = .ok (.if_icmp .ne 6, 3) := by decide +kernel
theorem dX8_choice_224 : decode cX8_choice 224 = .ok (.iload 6, 2) := by decide +kernel
theorem dX8_choice_226 : decode cX8_choice 226 = .ok (.ireturn, 1) := by decide +kernel
theorem dX8_choice_227 : decode cX8_choice 227 = .ok (.iload 7, 2) := by decide +kernel
theorem dX8_choice_229 : decode cX8_choice 229 = .ok (.istore 8, 2) := by decide +kernel
theorem dX8_choice_231 : decode cX8_choice 231 = .ok (.iload_n 3, 1) := by decide +kernel
theorem dX8_choice_232 : decode cX8_choice 232 = .ok (.iconst 1, 1) := by decide +kernel
theorem dX8_choice_233 : decode cX8_choice 233 = .ok (.isub, 1) := by decide +kernel
theorem dX8_choice_234 : decode cX8_choice 234 = .ok (.istore 9, 2) := by decide +kernel
theorem dX8_choice_236 : decode cX8_choice 236 = .ok (.iload 9, 2) := by decide +kernel
theorem dX8_choice_238 : decode cX8_choice 238 = .ok (.iload 4, 2) := by decide +kernel
theorem dX8_choice_240 : decode cX8_choice 240 = .ok (.if_icmp .le 16, 3) := by decide +kernel
theorem dX8_choice_243 : decode cX8_choice 243 = .ok (.iload 8, 2) := by decide +kernel
theorem dX8_choice_245 : decode cX8_choice 245 = .ok (.bipush 6, 2) := by decide +kernel
theorem dX8_choice_247 : decode cX8_choice 247 = .ok (.idiv, 1) := by decide +kernel
theorem dX8_choice_248 : decode cX8_choice 248 = .ok (.istore 8, 2) := by decide +kernel
theorem dX8_choice_250 : decode cX8_choice 250 = .ok (.iinc 9 (-1), 3) := by decide +kernel
theorem dX8_choice_253 : decode cX8_choice 253 = .ok (.goto (-17), 3) := by decide +kernel
theorem dX8_choice_256 : decode cX8_choice 256 = .ok (.iload 8, 2) := by decide +kernel
theorem dX8_choice_258 : decode cX8_choice 258 = .ok (.bipush 6, 2) := by decide +kernel
theorem dX8_choice_260 : decode cX8_choice 260 = .ok (.irem, 1) := by decide +kernel
theorem dX8_choice_261 : decode cX8_choice 261 = .ok (.ireturn, 1) := by decide +kernel
theorem dX8_powerOf_0 : decode cX8_powerOf 0 = .ok (.iconst 1, 1) := by decide +kernel
theorem dX8_powerOf_1 : decode cX8_powerOf 1 = .ok (.istore_n 3, 1) := by decide +kernel
theorem dX8_powerOf_2 : decode cX8_powerOf 2 = .ok (.iconst 0, 1) := by decide +kernel
theorem dX8_powerOf_3 : decode cX8_powerOf 3 = .ok (.istore 4, 2) := by decide +kernel
theorem dX8_powerOf_5 : decode cX8_powerOf 5 = .ok (.iload 4, 2) := by decide +kernel
theorem dX8_powerOf_7 : decode cX8_powerOf 7 = .ok (.iload_n 2, 1) := by decide +kernel
theorem dX8_powerOf_8 : decode cX8_powerOf 8 = .ok (.if_icmp .ge 13, 3) := by decide +kernel
theorem dX8_powerOf_11 : decode cX8_powerOf 11 = .ok (.iload_n 3, 1) := by decide +kernel
theorem dX8_powerOf_12 : decode cX8_powerOf 12 = .ok (.iload_n 1, 1) := by decide +kernel
theorem dX8_powerOf_13 : decode cX8_powerOf 13 = .ok (.imul, 1) := by decide +kernel
theorem dX8_powerOf_14 : decode cX8_powerOf 14 = .ok (.istore_n 3, 1) := by decide +kernel
theorem dX8_powerOf_15 : decode cX8_powerOf 15 = .ok (.iinc 4 1, 3) := by decide +kernel
theorem dX8_powerOf_18 : decode cX8_powerOf 18 = .ok (.goto (-13), 3) := by decide +kernel
theorem dX8_powerOf_21 : decode cX8_powerOf 21 = .ok (.iload_n 3, 1) := by decide +kernel
theorem dX8_powerOf_22 : decode cX8_powerOf 22 = .ok (.ireturn, 1) := by decide +kernel
theorem dX8_layBy_0 : decode cX8_layBy 0 = .ok (.iload_n 1, 1) := by decide +kernel
theorem dX8_layBy_1 : decode cX8_layBy 1 = .ok (.istore_n 3, 1) := by decide +kernel
theorem dX8_layBy_2 : decode cX8_layBy 2 = .ok (.aload_n 0, 1) := by decide +kernel
theorem dX8_layBy_3 : decode cX8_layBy 3 = .ok (.getfield 7, 3) := by decide +kernel
theorem dX8_layBy_6 : decode cX8_layBy 6 = .ok (.iconst 1, 1) := by decide +kernel
theorem dX8_layBy_7 : decode cX8_layBy 7 = .ok (.isub, 1) := by decide +kernel
theorem dX8_layBy_8 : decode cX8_layBy 8 = .ok (.istore 4, 2) := by decide +kernel
theorem dX8_layBy_10 : decode cX8_layBy 10 = .ok (.iload 4, 2) := by decide +kernel
theorem dX8_layBy_12 : decode cX8_layBy 12 = .ok (.ifCond .lt 23, 3) := by decide +kernel
theorem dX8_layBy_15 : decode cX8_layBy 15 = .ok (.aload_n 0, 1) := by decide +kernel
theorem dX8_layBy_16 : decode cX8_layBy 16 = .ok (.getfield 38, 3) := by decide +kernel
theorem dX8_layBy_19 : decode cX8_layBy 19 = .ok (.iload 4, 2) := by decide +kernel
theorem dX8_layBy_21 : decode cX8_layBy 21 = .ok (.iload_n 3, 1) := by decide +kernel
theorem dX8_layBy_22 : decode cX8_layBy 22 = .ok (.iload_n 2, 1) := by decide +kernel
theorem dX8_layBy_23 : decode cX8_layBy 23 = .ok (.irem, 1) := by decide +kernel
theorem dX8_layBy_24 : decode cX8_layBy 24 = .ok (.iastore, 1) := by decide +kernel
theorem dX8_layBy_25 : decode cX8_layBy 25 = .ok (.iload_n 3, 1) := by decide +kernel
theorem dX8_layBy_26 : decode cX8_layBy 26 = .ok (.iload_n 2, 1) := by decide +kernel
theorem dX8_layBy_27 : decode cX8_layBy 27 = .ok (.idiv, 1) := by decide +kernel
theorem dX8_layBy_28 : decode cX8_layBy 28 = .ok (.istore_n 3, 1) := by decide +kernel
theorem dX8_layBy_29 : decode cX8_layBy 29 = .ok (.iinc 4 (-1), 3) := by decide +kernel
theorem dX8_layBy_32 : decode cX8_layBy 32 = .ok (.goto (-22), 3) := by decide +kernel
theorem dX8_layBy_35 : decode cX8_layBy 35 = .ok (.return_, 1) := by decide +kernel
set_option maxRecDepth 20000 in
theorem ggX8_rest_X8_powerOf : GoodIn wsX8_rest wsX8_powerOf := goodIn_r _ [9] (by decide +kernel) (by decide +kernel)
set_option maxRecDepth 20000 in
theorem gX8_rest_X8_powerOf : GoodIn wsX8_rest (wsV RX8 142 RX8 yX8_powerOf wsX8_powerOf) := goodIn_app (goodIn_of _ (by decide +kernel)) ggX8_rest_X8_powerOf
set_option maxRecDepth 20000 in
theorem ggX8_rest_X8_apart : GoodIn wsX8_rest wsX8_apart := goodIn_r _ [12] (by decide +kernel) (by decide +kernel)
set_option maxRecDepth 20000 in
theorem gX8_rest_X8_apart : GoodIn wsX8_rest (va_wsS RX8 135 yX8_apart wsX8_apart) := goodIn_app (goodIn_of _ (by decide +kernel)) ggX8_rest_X8_apart
theorem dX8_rest_0 : decode cX8_rest 0 = .ok (.iconst 1, 1) := by decide +kernel
theorem dX8_rest_1 : decode cX8_rest 1 = .ok (.istore_n 2, 1) := by decide +kernel
theorem dX8_rest_2 : decode cX8_rest 2 = .ok (.iconst 0, 1) := by decide +kernel
theorem dX8_rest_3 : decode cX8_rest 3 = .ok (.istore_n 3, 1) := by decide +kernel
theorem dX8_rest_4 : decode cX8_rest 4 = .ok (.iload_n 3, 1) := by decide +kernel
theorem dX8_rest_5 : decode cX8_rest 5 = .ok (.aload_n 0, 1) := by decide +kernel
theorem dX8_rest_6 : decode cX8_rest 6 = .ok (.getfield 7, 3) := by decide +kernel
theorem dX8_rest_9 : decode cX8_rest 9 = .ok (.if_icmp .ge 123, 3) := by decide +kernel
theorem dX8_rest_12 : decode cX8_rest 12 = .ok (.aload_n 0, 1) := by decide +kernel
theorem dX8_rest_13 : decode cX8_rest 13 = .ok (.iconst 4, 1) := by decide +kernel
theorem dX8_rest_14 : decode cX8_rest 14 = .ok (.aload_n 0, 1) := by decide +kernel
theorem dX8_rest_15 : decode cX8_rest 15 = .ok (.getfield 7, 3) := by decide +kernel
theorem dX8_rest_18 : decode cX8_rest 18 = .ok (.iconst 1, 1) := by decide +kernel
theorem dX8_rest_19 : decode cX8_rest 19 = .ok (.isub, 1) := by decide +kernel
theorem dX8_rest_20 : decode cX8_rest 20 = .ok (.iload_n 3, 1) := by decide +kernel
theorem dX8_rest_21 : decode cX8_rest 21 = .ok (.isub, 1) := by decide +kernel
theorem dX8_rest_22 : decode cX8_rest 22 = .ok (.invokevirtual 142, 3) := by decide +kernel
theorem dX8_rest_25 : decode cX8_rest 25 = .ok (.istore 4, 2) := by decide +kernel
theorem dX8_rest_27 : decode cX8_rest 27 = .ok (.iload_n 1, 1) := by decide +kernel
theorem dX8_rest_28 : decode cX8_rest 28 = .ok (.iload 4, 2) := by decide +kernel
theorem dX8_rest_30 : decode cX8_rest 30 = .ok (.idiv, 1) := by decide +kernel
theorem dX8_rest_31 : decode cX8_rest 31 = .ok (.iconst 4, 1) := by decide +kernel
theorem dX8_rest_32 : decode cX8_rest 32 = .ok (.irem, 1) := by decide +kernel
theorem dX8_rest_33 : decode cX8_rest 33 = .ok (.istore 5, 2) := by decide +kernel
theorem dX8_rest_35 : decode cX8_rest 35 = .ok (.aload_n 0, 1) := by decide +kernel
theorem dX8_rest_36 : decode cX8_rest 36 = .ok (.getfield 50, 3) := by decide +kernel
theorem dX8_rest_39 : decode cX8_rest 39 = .ok (.iload_n 1, 1) := by decide +kernel
theorem dX8_rest_40 : decode cX8_rest 40 = .ok (.iaload, 1) := by decide +kernel
theorem dX8_rest_41 : decode cX8_rest 41 = .ok (.aload_n 0, 1) := by decide +kernel
theorem dX8_rest_42 : decode cX8_rest 42 = .ok (.getfield 20, 3) := by decide +kernel
theorem dX8_rest_45 : decode cX8_rest 45 = .ok (.iload_n 3, 1) := by decide +kernel
theorem dX8_rest_46 : decode cX8_rest 46 = .ok (.iaload, 1) := by decide +kernel
theorem dX8_rest_47 : decode cX8_rest 47 = .ok (.invokestatic 135, 3) := by decide +kernel
theorem dX8_rest_50 : decode cX8_rest 50 = .ok (.aload_n 0, 1) := by decide +kernel
theorem dX8_rest_51 : decode cX8_rest 51 = .ok (.getfield 23, 3) := by decide +kernel
theorem dX8_rest_54 : decode cX8_rest 54 = .ok (.iload 5, 2) := by decide +kernel
theorem dX8_rest_56 : decode cX8_rest 56 = .ok (.imul, 1) := by decide +kernel
theorem dX8_rest_57 : decode cX8_rest 57 = .ok (.iadd, 1) := by decide +kernel
theorem dX8_rest_58 : decode cX8_rest 58 = .ok (.istore 6, 2) := by decide +kernel
theorem dX8_rest_60 : decode cX8_rest 60 = .ok (.iconst 0, 1) := by decide +kernel
theorem dX8_rest_61 : decode cX8_rest 61 = .ok (.istore 7, 2) := by decide +kernel
theorem dX8_rest_63 : decode cX8_rest 63 = .ok (.iload 7, 2) := by decide +kernel
theorem dX8_rest_65 : decode cX8_rest 65 = .ok (.iconst 4, 1) := by decide +kernel
theorem dX8_rest_66 : decode cX8_rest 66 = .ok (.if_icmp .ge 60, 3) := by decide +kernel
theorem dX8_rest_69 : decode cX8_rest 69 = .ok (.iload_n 1, 1) := by decide +kernel
theorem dX8_rest_70 : decode cX8_rest 70 = .ok (.iload 7, 2) := by decide +kernel
theorem dX8_rest_72 : decode cX8_rest 72 = .ok (.iload 5, 2) := by decide +kernel
theorem dX8_rest_74 : decode cX8_rest 74 = .ok (.isub, 1) := by decide +kernel
theorem dX8_rest_75 : decode cX8_rest 75 = .ok (.iload 4, 2) := by decide +kernel
theorem dX8_rest_77 : decode cX8_rest 77 = .ok (.imul, 1) := by decide +kernel
theorem dX8_rest_78 : decode cX8_rest 78 = .ok (.iadd, 1) := by decide +kernel
theorem dX8_rest_79 : decode cX8_rest 79 = .ok (.istore 8, 2) := by decide +kernel
theorem dX8_rest_81 : decode cX8_rest 81 = .ok (.iload_n 2, 1) := by decide +kernel
theorem dX8_rest_82 : decode cX8_rest 82 = .ok (.ifCond .eq 36, 3) := by decide +kernel
theorem dX8_rest_85 : decode cX8_rest 85 = .ok (.aload_n 0, 1) := by decide +kernel
theorem dX8_rest_86 : decode cX8_rest 86 = .ok (.getfield 50, 3) := by decide +kernel
theorem dX8_rest_89 : decode cX8_rest 89 = .ok (.iload 8, 2) := by decide +kernel
theorem dX8_rest_91 : decode cX8_rest 91 = .ok (.iaload, 1) := by decide +kernel
theorem dX8_rest_92 : decode cX8_rest 92 = .ok (.aload_n 0, 1) := by decide +kernel
theorem dX8_rest_93 : decode cX8_rest 93 = .ok (.getfield 20, 3) := by decide +kernel
theorem dX8_rest_96 : decode cX8_rest 96 = .ok (.iload_n 3, 1) := by decide +kernel
theorem dX8_rest_97 : decode cX8_rest 97 = .ok (.iaload, 1) := by decide +kernel
theorem dX8_rest_98 : decode cX8_rest 98 = .ok (.invokestatic 135, 3) := by decide +kernel
theorem dX8_rest_101 : decode cX8_rest 101 = .ok (.aload_n 0, 1) := by decide +kernel
theorem dX8_rest_102 : decode cX8_rest 102 = .ok (.getfield 23, 3) := by decide +kernel
theorem dX8_rest_105 : decode cX8_rest 105 = .ok (.iload 7, 2) := by decide +kernel
theorem dX8_rest_107 : decode cX8_rest 107 = .ok (.imul, 1) := by decide +kernel
theorem dX8_rest_108 : decode cX8_rest 108 = .ok (.iadd, 1) := by decide +kernel
theorem dX8_rest_109 : decode cX8_rest 109 = .ok (.iload 6, 2) := by decide +kernel
theorem dX8_rest_111 : decode cX8_rest 111 = .ok (.if_icmp .lt 7, 3) := by decide +kernel
theorem dX8_rest_114 : decode cX8_rest 114 = .ok (.iconst 1, 1) := by decide +kernel
theorem dX8_rest_115 : decode cX8_rest 115 = .ok (.goto 4, 3) := by decide +kernel
theorem dX8_rest_118 : decode cX8_rest 118 = .ok (.iconst 0, 1) := by decide +kernel
theorem dX8_rest_119 : decode cX8_rest 119 = .ok (.istore_n 2, 1) := by decide +kernel
theorem dX8_rest_120 : decode cX8_rest 120 = .ok (.iinc 7 1, 3) := by decide +kernel
theorem dX8_rest_123 : decode cX8_rest 123 = .ok (.goto (-60), 3) := by decide +kernel
theorem dX8_rest_126 : decode cX8_rest 126 = .ok (.iinc 3 1, 3) := by decide +kernel
theorem dX8_rest_129 : decode cX8_rest 129 = .ok (.goto (-125), 3) := by decide +kernel
theorem dX8_rest_132 : decode cX8_rest 132 = .ok (.iload_n 2, 1) := by decide +kernel
theorem dX8_rest_133 : decode cX8_rest 133 = .ok (.ireturn, 1) := by decide +kernel
set_option maxRecDepth 20000 in
theorem ggX8_rests_X8_isHour : GoodIn wsX8_rests wsX8_isHour := goodIn_r _ [7, 8, 9, 6, 10] (by decide +kernel) (by decide +kernel)
set_option maxRecDepth 20000 in
theorem gX8_rests_X8_isHour : GoodIn wsX8_rests (va_wsS RX8 114 yX8_isHour wsX8_isHour) := goodIn_app (goodIn_of _ (by decide +kernel)) ggX8_rests_X8_isHour
set_option maxRecDepth 20000 in
theorem ggX8_rests_X8_asTold : GoodIn wsX8_rests wsX8_asTold := goodIn_r _ [14, 15, 3, 16, 64, 65, 66, 67, 68, 69, 70, 71, 72, 73, 74, 75, 76, 77, 78, 79, 80, 81, 82, 83, 84, 85, 86] (by decide +kernel) (by decide +kernel)
set_option maxRecDepth 20000 in
theorem gX8_rests_X8_asTold : GoodIn wsX8_rests (wsV RX8 117 RX8 yX8_asTold wsX8_asTold) := goodIn_app (goodIn_of _ (by decide +kernel)) ggX8_rests_X8_asTold
set_option maxRecDepth 20000 in
theorem ggX8_rests_X8_powerOf : GoodIn wsX8_rests wsX8_powerOf := goodIn_r _ [20] (by decide +kernel) (by decide +kernel)
set_option maxRecDepth 20000 in
theorem gX8_rests_X8_powerOf : GoodIn wsX8_rests (wsV RX8 142 RX8 yX8_powerOf wsX8_powerOf) := goodIn_app (goodIn_of _ (by decide +kernel)) ggX8_rests_X8_powerOf
set_option maxRecDepth 20000 in
theorem ggX8_rests_X8_layBy : GoodIn wsX8_rests wsX8_layBy := goodIn_r _ [24, 1, 3, 64, 65, 66, 67, 68, 69, 70, 71, 72, 73, 74, 75, 76, 77, 78, 79, 80, 81, 82, 83, 84, 85, 86] (by decide +kernel) (by decide +kernel)
set_option maxRecDepth 20000 in
theorem gX8_rests_X8_layBy : GoodIn wsX8_rests (wsV RX8 145 RX8 yX8_layBy wsX8_layBy) := goodIn_app (goodIn_of _ (by decide +kernel)) ggX8_rests_X8_layBy
set_option maxRecDepth 20000 in
theorem ggX8_rests_X8_nextOf : GoodIn wsX8_rests wsX8_nextOf := goodIn_r _ [28, 29, 30, 31, 32, 33, 34, 6, 35, 1, 36, 37, 38, 39, 40, 41, 15, 3, 42, 43, 44, 8, 9, 10, 45, 46, 47, 48, 49, 50, 51, 52, 53, 54, 64, 65, 66, 67, 68, 69, 70, 71, 72, 73, 74, 75, 76, 77, 78, 79, 80, 81, 82, 83, 84, 85, 86] (by decide +kernel) (by decide +kernel)
set_option maxRecDepth 20000 in
theorem gX8_rests_X8_nextOf : GoodIn wsX8_rests (wsV RX8 111 RX8 yX8_nextOf wsX8_nextOf) := goodIn_app (goodIn_of _ (by decide +kernel)) ggX8_rests_X8_nextOf
set_option maxRecDepth 20000 in
theorem ggX8_rests_X8_rest : GoodIn wsX8_rests wsX8_rest := goodIn_r _ [58, 1, 2, 59, 60, 17, 18, 19, 6, 20, 61, 62, 63, 64, 65, 66, 67, 68, 69, 70, 71, 72, 73, 74, 75, 76, 77, 78, 79, 80, 81, 82, 83, 84, 85, 86] (by decide +kernel) (by decide +kernel)
set_option maxRecDepth 20000 in
theorem gX8_rests_X8_rest : GoodIn wsX8_rests (wsV RX8 149 RX8 yX8_rest wsX8_rest) := goodIn_app (goodIn_of _ (by decide +kernel)) ggX8_rests_X8_rest
theorem dX8_rests_0 : decode cX8_rests 0 = .ok (.iload_n 1, 1) := by decide +kernel
theorem dX8_rests_1 : decode cX8_rests 1 = .ok (.invokestatic 114, 3) := by decide +kernel
theorem dX8_rests_4 : decode cX8_rests 4 = .ok (.ifCond .ne 6, 3) := by decide +kernel
theorem dX8_rests_7 : decode cX8_rests 7 = .ok (.bipush (-2), 2) := by decide +kernel
theorem dX8_rests_9 : decode cX8_rests 9 = .ok (.ireturn, 1) := by decide +kernel
theorem dX8_rests_10 : decode cX8_rests 10 = .ok (.aload_n 0, 1) := by decide +kernel
theorem dX8_rests_11 : decode cX8_rests 11 = .ok (.invokevirtual 117, 3) := by decide +kernel
theorem dX8_rests_14 : decode cX8_rests 14 = .ok (.aload_n 0, 1) := by decide +kernel
theorem dX8_rests_15 : decode cX8_rests 15 = .ok (.iconst 4, 1) := by decide +kernel
theorem dX8_rests_16 : decode cX8_rests 16 = .ok (.aload_n 0, 1) := by decide +kernel
theorem dX8_rests_17 : decode cX8_rests 17 = .ok (.getfield 7, 3) := by decide +kernel
theorem dX8_rests_20 : decode cX8_rests 20 = .ok (.invokevirtual 142, 3) := by decide +kernel
theorem dX8_rests_23 : decode cX8_rests 23 = .ok (.istore_n 3, 1) := by decide +kernel
theorem dX8_rests_24 : decode cX8_rests 24 = .ok (.iconst 0, 1) := by decide +kernel
theorem dX8_rests_25 : decode cX8_rests 25 = .ok (.istore 4, 2) := by decide +kernel
theorem dX8_rests_27 : decode cX8_rests 27 = .ok (.iload 4, 2) := by decide +kernel
theorem dX8_rests_29 : decode cX8_rests 29 = .ok (.iload_n 3, 1) := by decide +kernel
theorem dX8_rests_30 : decode cX8_rests 30 = .ok (.if_icmp .ge 28, 3) := by decide +kernel
theorem dX8_rests_33 : decode cX8_rests 33 = .ok (.aload_n 0, 1) := by decide +kernel
theorem dX8_rests_34 : decode cX8_rests 34 = .ok (.iload 4, 2) := by decide +kernel
theorem dX8_rests_36 : decode cX8_rests 36 = .ok (.iconst 4, 1) := by decide +kernel
theorem dX8_rests_37 : decode cX8_rests 37 = .ok (.invokevirtual 145, 3) := by decide +kernel
theorem dX8_rests_40 : decode cX8_rests 40 = .ok (.aload_n 0, 1) := by decide +kernel
theorem dX8_rests_41 : decode cX8_rests 41 = .ok (.getfield 50, 3) := by decide +kernel
theorem dX8_rests_44 : decode cX8_rests 44 = .ok (.iload 4, 2) := by decide +kernel
theorem dX8_rests_46 : decode cX8_rests 46 = .ok (.aload_n 0, 1) := by decide +kernel
theorem dX8_rests_47 : decode cX8_rests 47 = .ok (.iload_n 1, 1) := by decide +kernel
theorem dX8_rests_48 : decode cX8_rests 48 = .ok (.invokevirtual 111, 3) := by decide +kernel
theorem dX8_rests_51 : decode cX8_rests 51 = .ok (.iastore, 1) := by decide +kernel
theorem dX8_rests_52 : decode cX8_rests 52 = .ok (.iinc 4 1, 3) := by decide +kernel
theorem dX8_rests_55 : decode cX8_rests 55 = .ok (.goto (-28), 3) := by decide +kernel
theorem dX8_rests_58 : decode cX8_rests 58 = .ok (.iconst 0, 1) := by decide +kernel
theorem dX8_rests_59 : decode cX8_rests 59 = .ok (.istore 4, 2) := by decide +kernel
theorem dX8_rests_61 : decode cX8_rests 61 = .ok (.iconst 0, 1) := by decide +kernel
theorem dX8_rests_62 : decode cX8_rests 62 = .ok (.istore 5, 2) := by decide +kernel
theorem dX8_rests_64 : decode cX8_rests 64 = .ok (.iload 5, 2) := by decide +kernel
theorem dX8_rests_66 : decode cX8_rests 66 = .ok (.iload_n 3, 1) := by decide +kernel
theorem dX8_rests_67 : decode cX8_rests 67 = .ok (.if_icmp .ge 73, 3) := by decide +kernel
theorem dX8_rests_70 : decode cX8_rests 70 = .ok (.aload_n 0, 1) := by decide +kernel
theorem dX8_rests_71 : decode cX8_rests 71 = .ok (.iload 5, 2) := by decide +kernel
theorem dX8_rests_73 : decode cX8_rests 73 = .ok (.invokevirtual 149, 3) := by decide +kernel
theorem dX8_rests_76 : decode cX8_rests 76 = .ok (.ifCond .eq 58, 3) := by decide +kernel
theorem dX8_rests_79 : decode cX8_rests 79 = .ok (.iload 4, 2) := by decide +kernel
theorem dX8_rests_81 : decode cX8_rests 81 = .ok (.iload_n 2, 1) := by decide +kernel
theorem dX8_rests_82 : decode cX8_rests 82 = .ok (.if_icmp .ne 49, 3) := by decide +kernel
theorem dX8_rests_85 : decode cX8_rests 85 = .ok (.aload_n 0, 1) := by decide +kernel
theorem dX8_rests_86 : decode cX8_rests 86 = .ok (.iload 5, 2) := by decide +kernel
theorem dX8_rests_88 : decode cX8_rests 88 = .ok (.iconst 4, 1) := by decide +kernel
theorem dX8_rests_89 : decode cX8_rests 89 = .ok (.invokevirtual 145, 3) := by decide +kernel
theorem dX8_rests_92 : decode cX8_rests 92 = .ok (.iconst 0, 1) := by decide +kernel
theorem dX8_rests_93 : decode cX8_rests 93 = .ok (.istore 6, 2) := by decide +kernel
theorem dX8_rests_95 : decode cX8_rests 95 = .ok (.iconst 0, 1) := by decide +kernel
theorem dX8_rests_96 : decode cX8_rests 96 = .ok (.istore 7, 2) := by decide +kernel
theorem dX8_rests_98 : decode cX8_rests 98 = .ok (.iload 7, 2) := by decide +kernel
theorem dX8_rests_100 : decode cX8_rests 100 = .ok (.aload_n 0, 1) := by decide +kernel
theorem dX8_rests_101 : decode cX8_rests 101 = .ok (.getfield 7, 3) := by decide +kernel
theorem dX8_rests_104 : decode cX8_rests 104 = .ok (.if_icmp .ge 24, 3) := by decide +kernel
theorem dX8_rests_107 : decode cX8_rests 107 = .ok (.bipush 10, 2) := by decide +kernel
theorem dX8_rests_109 : decode cX8_rests 109 = .ok (.iload 6, 2) := by decide +kernel
theorem dX8_rests_111 : decode cX8_rests 111 = .ok (.imul, 1) := by decide +kernel
theorem dX8_rests_112 : decode cX8_rests 112 = .ok (.aload_n 0, 1) := by decide +kernel
theorem dX8_rests_113 : decode cX8_rests 113 = .ok (.getfield 38, 3) := by decide +kernel
theorem dX8_rests_116 : decode cX8_rests 116 = .ok (.iload 7, 2) := by decide +kernel
theorem dX8_rests_118 : decode cX8_rests 118 = .ok (.iaload, 1) := by decide +kernel
theorem dX8_rests_119 : decode cX8_rests 119 = .ok (.iadd, 1) := by decide +kernel
theorem dX8_rests_120 : decode cX8_rests 120 = .ok (.istore 6, 2) := by decide +kernel
theorem dX8_rests_122 : decode cX8_rests 122 = .ok (.iinc 7 1, 3) := by decide +kernel
theorem dX8_rests_125 : decode cX8_rests 125 = .ok (.goto (-27), 3) := by decide +kernel
theorem dX8_rests_128 : decode cX8_rests 128 = .ok (.iload 6, 2) := by decide +kernel
theorem dX8_rests_130 : decode cX8_rests 130 = .ok (.ireturn, 1) := by decide +kernel
theorem dX8_rests_131 : decode cX8_rests 131 = .ok (.iinc 4 1, 3) := by decide +kernel
theorem dX8_rests_134 : decode cX8_rests 134 = .ok (.iinc 5 1, 3) := by decide +kernel
theorem dX8_rests_137 : decode cX8_rests 137 = .ok (.goto (-73), 3) := by decide +kernel
theorem dX8_rests_140 : decode cX8_rests 140 = .ok (.iload_n 2, 1) := by decide +kernel
theorem dX8_rests_141 : decode cX8_rests 141 = .ok (.iconst (-1), 1) := by decide +kernel
theorem dX8_rests_142 : decode cX8_rests 142 = .ok (.if_icmp .ne 8, 3) := by decide +kernel
theorem dX8_rests_145 : decode cX8_rests 145 = .ok (.iload 4, 2) := by decide +kernel
theorem dX8_rests_147 : decode cX8_rests 147 = .ok (.goto 5, 3) := by decide +kernel
theorem dX8_rests_150 : decode cX8_rests 150 = .ok (.bipush (-6), 2) := by decide +kernel
theorem dX8_rests_152 : decode cX8_rests 152 = .ok (.ireturn, 1) := by decide +kernel
set_option maxRecDepth 20000 in
theorem ggX8_laws_X8_isHour : GoodIn wsX8_laws wsX8_isHour := goodIn_r _ [10, 11, 12, 9, 13] (by decide +kernel) (by decide +kernel)
set_option maxRecDepth 20000 in
theorem gX8_laws_X8_isHour : GoodIn wsX8_laws (va_wsS RX8 114 yX8_isHour wsX8_isHour) := goodIn_app (goodIn_of _ (by decide +kernel)) ggX8_laws_X8_isHour
set_option maxRecDepth 20000 in
theorem ggX8_laws_X8_in : GoodIn wsX8_laws wsX8_in := goodIn_r _ [13] (by decide +kernel) (by decide +kernel)
set_option maxRecDepth 20000 in
theorem gX8_laws_X8_in : GoodIn wsX8_laws (va_wsS RX8 69 yX8_in wsX8_in) := goodIn_app (goodIn_of _ (by decide +kernel)) ggX8_laws_X8_in
set_option maxRecDepth 20000 in
theorem ggX8_laws_X8_asTold : GoodIn wsX8_laws wsX8_asTold := goodIn_r _ [17, 18, 19, 20, 64, 65, 66, 67, 68, 69, 70, 71, 72, 73, 74, 75, 76, 77, 78, 79, 80, 81, 82, 83, 84, 85, 86] (by decide +kernel) (by decide +kernel)
set_option maxRecDepth 20000 in
theorem gX8_laws_X8_asTold : GoodIn wsX8_laws (wsV RX8 117 RX8 yX8_asTold wsX8_asTold) := goodIn_app (goodIn_of _ (by decide +kernel)) ggX8_laws_X8_asTold
set_option maxRecDepth 20000 in
theorem ggX8_laws_X8_layTends : GoodIn wsX8_laws wsX8_layTends := goodIn_r _ [24, 25, 26, 5, 6, 27, 28, 29, 9, 30, 1, 3, 31, 32, 33, 34, 35, 36, 37, 38, 39, 40, 41, 42, 18, 19, 43, 44, 45, 11, 12, 13, 46, 47, 48, 49, 50, 51, 52, 53, 54, 55, 64, 65, 66, 67, 68, 69, 70, 71, 72, 73, 74, 75, 76, 77, 78, 79, 80, 81, 82, 83, 84, 85, 86] (by decide +kernel) (by decide +kernel)
set_option maxRecDepth 20000 in
theorem gX8_laws_X8_layTends : GoodIn wsX8_laws (wsV RX8 132 RX8 yX8_layTends wsX8_layTends) := goodIn_app (goodIn_of _ (by decide +kernel)) ggX8_laws_X8_layTends
set_option maxRecDepth 20000 in
theorem ggX8_laws_X8_contentOf : GoodIn wsX8_laws wsX8_contentOf := goodIn_r _ [59, 36, 60, 61, 62, 9, 63, 64, 65, 66, 67, 68, 69, 70, 71, 72, 73, 74, 75, 76, 77, 78, 79, 80, 81, 82, 83, 84, 85, 86] (by decide +kernel) (by decide +kernel)
set_option maxRecDepth 20000 in
theorem gX8_laws_X8_contentOf : GoodIn wsX8_laws (wsV RX8 138 RX8 yX8_contentOf wsX8_contentOf) := goodIn_app (goodIn_of _ (by decide +kernel)) ggX8_laws_X8_contentOf
theorem dX8_laws_0 : decode cX8_laws 0 = .ok (.iload_n 1, 1) := by decide +kernel
theorem dX8_laws_1 : decode cX8_laws 1 = .ok (.invokestatic 114, 3) := by decide +kernel
theorem dX8_laws_4 : decode cX8_laws 4 = .ok (.ifCond .eq 12, 3) := by decide +kernel
theorem dX8_laws_7 : decode cX8_laws 7 = .ok (.iload_n 2, 1) := by decide +kernel
theorem dX8_laws_8 : decode cX8_laws 8 = .ok (.iconst 0, 1) := by decide +kernel
theorem dX8_laws_9 : decode cX8_laws 9 = .ok (.iconst 1, 1) := by decide +kernel
theorem dX8_laws_10 : decode cX8_laws 10 = .ok (.invokestatic 69, 3) := by decide +kernel
theorem dX8_laws_13 : decode cX8_laws 13 = .ok (.ifCond .ne 6, 3) := by decide +kernel
theorem dX8_laws_16 : decode cX8_laws 16 = .ok (.bipush (-2), 2) := by decide +kernel
theorem dX8_laws_18 : decode cX8_laws 18 = .ok (.ireturn, 1) := by decide +kernel
theorem dX8_laws_19 : decode cX8_laws 19 = .ok (.aload_n 0, 1) := by decide +kernel
theorem dX8_laws_20 : decode cX8_laws 20 = .ok (.invokevirtual 117, 3) := by decide +kernel
theorem dX8_laws_23 : decode cX8_laws 23 = .ok (.aload_n 0, 1) := by decide +kernel
theorem dX8_laws_24 : decode cX8_laws 24 = .ok (.getfield 26, 3) := by decide +kernel
theorem dX8_laws_27 : decode cX8_laws 27 = .ok (.istore_n 3, 1) := by decide +kernel
theorem dX8_laws_28 : decode cX8_laws 28 = .ok (.iconst 0, 1) := by decide +kernel
theorem dX8_laws_29 : decode cX8_laws 29 = .ok (.istore 4, 2) := by decide +kernel
theorem dX8_laws_31 : decode cX8_laws 31 = .ok (.iload 4, 2) := by decide +kernel
theorem dX8_laws_33 : decode cX8_laws 33 = .ok (.bipush 20, 2) := by decide +kernel
theorem dX8_laws_35 : decode cX8_laws 35 = .ok (.if_icmp .ge 23, 3) := by decide +kernel
theorem dX8_laws_38 : decode cX8_laws 38 = .ok (.aload_n 0, 1) := by decide +kernel
theorem dX8_laws_39 : decode cX8_laws 39 = .ok (.getfield 53, 3) := by decide +kernel
theorem dX8_laws_42 : decode cX8_laws 42 = .ok (.iload 4, 2) := by decide +kernel
theorem dX8_laws_44 : decode cX8_laws 44 = .ok (.aload_n 0, 1) := by decide +kernel
theorem dX8_laws_45 : decode cX8_laws 45 = .ok (.getfield 29, 3) := by decide +kernel
theorem dX8_laws_48 : decode cX8_laws 48 = .ok (.iload 4, 2) := by decide +kernel
theorem dX8_laws_50 : decode cX8_laws 50 = .ok (.iaload, 1) := by decide +kernel
theorem dX8_laws_51 : decode cX8_laws 51 = .ok (.iastore, 1) := by decide +kernel
theorem dX8_laws_52 : decode cX8_laws 52 = .ok (.iinc 4 1, 3) := by decide +kernel
theorem dX8_laws_55 : decode cX8_laws 55 = .ok (.goto (-24), 3) := by decide +kernel
theorem dX8_laws_58 : decode cX8_laws 58 = .ok (.bipush (-6), 2) := by decide +kernel
theorem dX8_laws_60 : decode cX8_laws 60 = .ok (.istore 4, 2) := by decide +kernel
theorem dX8_laws_62 : decode cX8_laws 62 = .ok (.bipush (-6), 2) := by decide +kernel
theorem dX8_laws_64 : decode cX8_laws 64 = .ok (.istore 5, 2) := by decide +kernel
theorem dX8_laws_66 : decode cX8_laws 66 = .ok (.ldc 141, 2) := by decide +kernel
theorem dX8_laws_68 : decode cX8_laws 68 = .ok (.istore 6, 2) := by decide +kernel
theorem dX8_laws_70 : decode cX8_laws 70 = .ok (.iconst 0, 1) := by decide +kernel
theorem dX8_laws_71 : decode cX8_laws 71 = .ok (.istore 7, 2) := by decide +kernel
theorem dX8_laws_73 : decode cX8_laws 73 = .ok (.iload 7, 2) := by decide +kernel
theorem dX8_laws_75 : decode cX8_laws 75 = .ok (.bipush 24, 2) := by decide +kernel
theorem dX8_laws_77 : decode cX8_laws 77 = .ok (.if_icmp .ge 129, 3) := by decide +kernel
theorem dX8_laws_80 : decode cX8_laws 80 = .ok (.iload 7, 2) := by decide +kernel
theorem dX8_laws_82 : decode cX8_laws 82 = .ok (.bipush 6, 2) := by decide +kernel
theorem dX8_laws_84 : decode cX8_laws 84 = .ok (.idiv, 1) := by decide +kernel
theorem dX8_laws_85 : decode cX8_laws 85 = .ok (.istore 8, 2) := by decide +kernel
theorem dX8_laws_87 : decode cX8_laws 87 = .ok (.aload_n 0, 1) := by decide +kernel
theorem dX8_laws_88 : decode cX8_laws 88 = .ok (.iconst 3, 1) := by decide +kernel
theorem dX8_laws_89 : decode cX8_laws 89 = .ok (.putfield 26, 3) := by decide +kernel
theorem dX8_laws_92 : decode cX8_laws 92 = .ok (.aload_n 0, 1) := by decide +kernel
theorem dX8_laws_93 : decode cX8_laws 93 = .ok (.getfield 29, 3) := by decide +kernel
theorem dX8_laws_96 : decode cX8_laws 96 = .ok (.iconst 0, 1) := by decide +kernel
theorem dX8_laws_97 : decode cX8_laws 97 = .ok (.bipush 45, 2) := by decide +kernel
theorem dX8_laws_99 : decode cX8_laws 99 = .ok (.iastore, 1) := by decide +kernel
theorem dX8_laws_100 : decode cX8_laws 100 = .ok (.aload_n 0, 1) := by decide +kernel
theorem dX8_laws_101 : decode cX8_laws 101 = .ok (.getfield 29, 3) := by decide +kernel
theorem dX8_laws_104 : decode cX8_laws 104 = .ok (.iconst 1, 1) := by decide +kernel
theorem dX8_laws_105 : decode cX8_laws 105 = .ok (.bipush 48, 2) := by decide +kernel
theorem dX8_laws_107 : decode cX8_laws 107 = .ok (.iload 7, 2) := by decide +kernel
theorem dX8_laws_109 : decode cX8_laws 109 = .ok (.bipush 6, 2) := by decide +kernel
theorem dX8_laws_111 : decode cX8_laws 111 = .ok (.irem, 1) := by decide +kernel
theorem dX8_laws_112 : decode cX8_laws 112 = .ok (.iadd, 1) := by decide +kernel
theorem dX8_laws_113 : decode cX8_laws 113 = .ok (.iastore, 1) := by decide +kernel
theorem dX8_laws_114 : decode cX8_laws 114 = .ok (.aload_n 0, 1) := by decide +kernel
theorem dX8_laws_115 : decode cX8_laws 115 = .ok (.getfield 29, 3) := by decide +kernel
theorem dX8_laws_118 : decode cX8_laws 118 = .ok (.iconst 2, 1) := by decide +kernel
theorem dX8_laws_119 : decode cX8_laws 119 = .ok (.iload 8, 2) := by decide +kernel
theorem dX8_laws_121 : decode cX8_laws 121 = .ok (.ifCond .ne 8, 3) := by decide +kernel
theorem dX8_laws_124 : decode cX8_laws 124 = .ok (.bipush 108, 2) := by decide +kernel
theorem dX8_laws_126 : decode cX8_laws 126 = .ok (.goto 27, 3) := by decide +kernel
theorem dX8_laws_129 : decode cX8_laws 129 = .ok (.iload 8, 2) := by decide +kernel
theorem dX8_laws_131 : decode cX8_laws 131 = .ok (.iconst 1, 1) := by decide +kernel
theorem dX8_laws_132 : decode cX8_laws 132 = .ok (.if_icmp .ne 8, 3) := by decide +kernel
theorem dX8_laws_135 : decode cX8_laws 135 = .ok (.bipush 109, 2) := by decide +kernel
theorem dX8_laws_137 : decode cX8_laws 137 = .ok (.goto 16, 3) := by decide +kernel
theorem dX8_laws_140 : decode cX8_laws 140 = .ok (.iload 8, 2) := by decide +kernel
theorem dX8_laws_142 : decode cX8_laws 142 = .ok (.iconst 2, 1) := by decide +kernel
theorem dX8_laws_143 : decode cX8_laws 143 = .ok (.if_icmp .ne 8, 3) := by decide +kernel
theorem dX8_laws_146 : decode cX8_laws 146 = .ok (.bipush 112, 2) := by decide +kernel
theorem dX8_laws_148 : decode cX8_laws 148 = .ok (.goto 5, 3) := by decide +kernel
theorem dX8_laws_151 : decode cX8_laws 151 = .ok (.bipush 102, 2) := by decide +kernel
theorem dX8_laws_153 : decode cX8_laws 153 = .ok (.iastore, 1) := by decide +kernel
theorem dX8_laws_154 : decode cX8_laws 154 = .ok (.aload_n 0, 1) := by decide +kernel
theorem dX8_laws_155 : decode cX8_laws 155 = .ok (.iload_n 1, 1) := by decide +kernel
theorem dX8_laws_156 : decode cX8_laws 156 = .ok (.invokevirtual 132, 3) := by decide +kernel
theorem dX8_laws_159 : decode cX8_laws 159 = .ok (.aload_n 0, 1) := by decide +kernel
theorem dX8_laws_160 : decode cX8_laws 160 = .ok (.getfield 126, 3) := by decide +kernel
theorem dX8_laws_163 : decode cX8_laws 163 = .ok (.iconst 1, 1) := by decide +kernel
theorem dX8_laws_164 : decode cX8_laws 164 = .ok (.if_icmp .ne 36, 3) := by decide +kernel
theorem dX8_laws_167 : decode cX8_laws 167 = .ok (.aload_n 0, 1) := by decide +kernel
theorem dX8_laws_168 : decode cX8_laws 168 = .ok (.aload_n 0, 1) := by decide +kernel
theorem dX8_laws_169 : decode cX8_laws 169 = .ok (.getfield 129, 3) := by decide +kernel
theorem dX8_laws_172 : decode cX8_laws 172 = .ok (.invokevirtual 138, 3) := by decide +kernel
theorem dX8_laws_175 : decode cX8_laws 175 = .ok (.iload 6, 2) := by decide +kernel
theorem dX8_laws_177 : decode cX8_laws 177 = .ok (.if_icmp .ge 23, 3) := by decide +kernel
theorem dX8_laws_180 : decode cX8_laws 180 = .ok (.aload_n 0, 1) := by decide +kernel
theorem dX8_laws_181 : decode cX8_laws 181 = .ok (.aload_n 0, 1) := by decide +kernel
theorem dX8_laws_182 : decode cX8_laws 182 = .ok (.getfield 129, 3) := by decide +kernel
theorem dX8_laws_185 : decode cX8_laws 185 = .ok (.invokevirtual 138, 3) := by decide +kernel
theorem dX8_laws_188 : decode cX8_laws 188 = .ok (.istore 6, 2) := by decide +kernel
theorem dX8_laws_190 : decode cX8_laws 190 = .ok (.iload 7, 2) := by decide +kernel
theorem dX8_laws_192 : decode cX8_laws 192 = .ok (.istore 4, 2) := by decide +kernel
theorem dX8_laws_194 : decode cX8_laws 194 = .ok (.aload_n 0, 1) := by decide +kernel
theorem dX8_laws_195 : decode cX8_laws 195 = .ok (.getfield 129, 3) := by decide +kernel
theorem dX8_laws_198 : decode cX8_laws 198 = .ok (.istore 5, 2) := by decide +kernel
theorem dX8_laws_200 : decode cX8_laws 200 = .ok (.iinc 7 1, 3) := by decide +kernel
theorem dX8_laws_203 : decode cX8_laws 203 = .ok (.goto (-130), 3) := by decide +kernel
theorem dX8_laws_206 : decode cX8_laws 206 = .ok (.aload_n 0, 1) := by decide +kernel
theorem dX8_laws_207 : decode cX8_laws 207 = .ok (.iload_n 3, 1) := by decide +kernel
theorem dX8_laws_208 : decode cX8_laws 208 = .ok (.putfield 26, 3) := by decide +kernel
theorem dX8_laws_211 : decode cX8_laws 211 = .ok (.iconst 0, 1) := by decide +kernel
theorem dX8_laws_212 : decode cX8_laws 212 = .ok (.istore 7, 2) := by decide +kernel
theorem dX8_laws_214 : decode cX8_laws 214 = .ok (.iload 7, 2) := by decide +kernel
theorem dX8_laws_216 : decode cX8_laws 216 = .ok (.bipush 20, 2) := by decide +kernel
theorem dX8_laws_218 : decode cX8_laws 218 = .ok (.if_icmp .ge 23, 3) := by decide +kernel
theorem dX8_laws_221 : decode cX8_laws 221 = .ok (.aload_n 0, 1) := by decide +kernel
theorem dX8_laws_222 : decode cX8_laws 222 = .ok (.getfield 29, 3) := by decide +kernel
theorem dX8_laws_225 : decode cX8_laws 225 = .ok (.iload 7, 2) := by decide +kernel
theorem dX8_laws_227 : decode cX8_laws 227 = .ok (.aload_n 0, 1) := by decide +kernel
theorem dX8_laws_228 : decode cX8_laws 228 = .ok (.getfield 53, 3) := by decide +kernel
theorem dX8_laws_231 : decode cX8_laws 231 = .ok (.iload 7, 2) := by decide +kernel
theorem dX8_laws_233 : decode cX8_laws 233 = .ok (.iaload, 1) := by decide +kernel
theorem dX8_laws_234 : decode cX8_laws 234 = .ok (.iastore, 1) := by decide +kernel
theorem dX8_laws_235 : decode cX8_laws 235 = .ok (.iinc 7 1, 3) := by decide +kernel
theorem dX8_laws_238 : decode cX8_laws 238 = .ok (.goto (-24), 3) := by decide +kernel
theorem dX8_laws_241 : decode cX8_laws 241 = .ok (.iload_n 2, 1) := by decide +kernel
theorem dX8_laws_242 : decode cX8_laws 242 = .ok (.ifCond .ne 8, 3) := by decide +kernel
theorem dX8_laws_245 : decode cX8_laws 245 = .ok (.iload 4, 2) := by decide +kernel
theorem dX8_laws_247 : decode cX8_laws 247 = .ok (.goto 5, 3) := by decide +kernel
theorem dX8_laws_250 : decode cX8_laws 250 = .ok (.iload 5, 2) := by decide +kernel
theorem dX8_laws_252 : decode cX8_laws 252 = .ok (.ireturn, 1) := by decide +kernel
theorem dX8_bits_0 : decode cX8_bits 0 = .ok (.iconst 0, 1) := by decide +kernel
theorem dX8_bits_1 : decode cX8_bits 1 = .ok (.istore_n 1, 1) := by decide +kernel
theorem dX8_bits_2 : decode cX8_bits 2 = .ok (.iconst 0, 1) := by decide +kernel
theorem dX8_bits_3 : decode cX8_bits 3 = .ok (.istore_n 2, 1) := by decide +kernel
theorem dX8_bits_4 : decode cX8_bits 4 = .ok (.iload_n 2, 1) := by decide +kernel
theorem dX8_bits_5 : decode cX8_bits 5 = .ok (.bipush 6, 2) := by decide +kernel
theorem dX8_bits_7 : decode cX8_bits 7 = .ok (.if_icmp .ge 17, 3) := by decide +kernel
theorem dX8_bits_10 : decode cX8_bits 10 = .ok (.iload_n 1, 1) := by decide +kernel
theorem dX8_bits_11 : decode cX8_bits 11 = .ok (.iload_n 0, 1) := by decide +kernel
theorem dX8_bits_12 : decode cX8_bits 12 = .ok (.iload_n 2, 1) := by decide +kernel
theorem dX8_bits_13 : decode cX8_bits 13 = .ok (.ishr, 1) := by decide +kernel
theorem dX8_bits_14 : decode cX8_bits 14 = .ok (.iconst 1, 1) := by decide +kernel
theorem dX8_bits_15 : decode cX8_bits 15 = .ok (.iand, 1) := by decide +kernel
theorem dX8_bits_16 : decode cX8_bits 16 = .ok (.iadd, 1) := by decide +kernel
theorem dX8_bits_17 : decode cX8_bits 17 = .ok (.istore_n 1, 1) := by decide +kernel
theorem dX8_bits_18 : decode cX8_bits 18 = .ok (.iinc 2 1, 3) := by decide +kernel
theorem dX8_bits_21 : decode cX8_bits 21 = .ok (.goto (-17), 3) := by decide +kernel
theorem dX8_bits_24 : decode cX8_bits 24 = .ok (.iload_n 1, 1) := by decide +kernel
theorem dX8_bits_25 : decode cX8_bits 25 = .ok (.ireturn, 1) := by decide +kernel
set_option maxRecDepth 20000 in
theorem ggX8_moves_X8_asTold : GoodIn wsX8_moves wsX8_asTold := goodIn_r _ [7, 8, 2, 9, 57, 58, 59, 60, 61, 62, 63, 64, 65, 66, 67, 68, 69, 70, 71, 72, 73, 74, 75, 76, 77, 78, 79] (by decide +kernel) (by decide +kernel)
set_option maxRecDepth 20000 in
theorem gX8_moves_X8_asTold : GoodIn wsX8_moves (wsV RX8 117 RX8 yX8_asTold wsX8_asTold) := goodIn_app (goodIn_of _ (by decide +kernel)) ggX8_moves_X8_asTold
set_option maxRecDepth 20000 in
theorem ggX8_moves_X8_bits : GoodIn wsX8_moves wsX8_bits := goodIn_r _ [12] (by decide +kernel) (by decide +kernel)
set_option maxRecDepth 20000 in
theorem gX8_moves_X8_bits : GoodIn wsX8_moves (va_wsS RX8 152 yX8_bits wsX8_bits) := goodIn_app (goodIn_of _ (by decide +kernel)) ggX8_moves_X8_bits
set_option maxRecDepth 20000 in
theorem ggX8_moves_X8_powerOf : GoodIn wsX8_moves wsX8_powerOf := goodIn_r _ [16] (by decide +kernel) (by decide +kernel)
set_option maxRecDepth 20000 in
theorem gX8_moves_X8_powerOf : GoodIn wsX8_moves (wsV RX8 142 RX8 yX8_powerOf wsX8_powerOf) := goodIn_app (goodIn_of _ (by decide +kernel)) ggX8_moves_X8_powerOf
set_option maxRecDepth 20000 in
theorem ggX8_moves_X8_has : GoodIn wsX8_moves wsX8_has := goodIn_r _ [19] (by decide +kernel) (by decide +kernel)
set_option maxRecDepth 20000 in
theorem gX8_moves_X8_has : GoodIn wsX8_moves (va_wsS RX8 155 yX8_has wsX8_has) := goodIn_app (goodIn_of _ (by decide +kernel)) ggX8_moves_X8_has
set_option maxRecDepth 20000 in
theorem ggX8_moves_X8_hourOf : GoodIn wsX8_moves wsX8_hourOf := goodIn_r _ [23, 24, 25, 26, 6, 27, 28, 29, 30, 31, 32, 33, 34, 1, 35, 36, 37, 38, 39, 40, 8, 2, 41, 42, 43, 44, 45, 46, 47, 48, 49, 50, 51, 52, 53, 54, 55, 56, 57, 58, 59, 60, 61, 62, 63, 64, 65, 66, 67, 68, 69, 70, 71, 72, 73, 74, 75, 76, 77, 78, 79] (by decide +kernel) (by decide +kernel)
set_option maxRecDepth 20000 in
theorem gX8_moves_X8_hourOf : GoodIn wsX8_moves (wsV RX8 120 RX8 yX8_hourOf wsX8_hourOf) := goodIn_app (goodIn_of _ (by decide +kernel)) ggX8_moves_X8_hourOf
theorem dX8_moves_0 : decode cX8_moves 0 = .ok (.aload_n 0, 1) := by decide +kernel
theorem dX8_moves_1 : decode cX8_moves 1 = .ok (.invokevirtual 117, 3) := by decide +kernel
theorem dX8_moves_4 : decode cX8_moves 4 = .ok (.aload_n 0, 1) := by decide +kernel
theorem dX8_moves_5 : decode cX8_moves 5 = .ok (.bipush 6, 2) := by decide +kernel
theorem dX8_moves_7 : decode cX8_moves 7 = .ok (.iload_n 1, 1) := by decide +kernel
theorem dX8_moves_8 : decode cX8_moves 8 = .ok (.invokestatic 152, 3) := by decide +kernel
theorem dX8_moves_11 : decode cX8_moves 11 = .ok (.invokevirtual 142, 3) := by decide +kernel
theorem dX8_moves_14 : decode cX8_moves 14 = .ok (.istore 5, 2) := by decide +kernel
theorem dX8_moves_16 : decode cX8_moves 16 = .ok (.iconst 0, 1) := by decide +kernel
theorem dX8_moves_17 : decode cX8_moves 17 = .ok (.istore 6, 2) := by decide +kernel
theorem dX8_moves_19 : decode cX8_moves 19 = .ok (.iload 6, 2) := by decide +kernel
theorem dX8_moves_21 : decode cX8_moves 21 = .ok (.iload 5, 2) := by decide +kernel
theorem dX8_moves_23 : decode cX8_moves 23 = .ok (.if_icmp .ge 92, 3) := by decide +kernel
theorem dX8_moves_26 : decode cX8_moves 26 = .ok (.iload 6, 2) := by decide +kernel
theorem dX8_moves_28 : decode cX8_moves 28 = .ok (.istore 7, 2) := by decide +kernel
theorem dX8_moves_30 : decode cX8_moves 30 = .ok (.iconst 0, 1) := by decide +kernel
theorem dX8_moves_31 : decode cX8_moves 31 = .ok (.istore 8, 2) := by decide +kernel
theorem dX8_moves_33 : decode cX8_moves 33 = .ok (.iload 8, 2) := by decide +kernel
theorem dX8_moves_35 : decode cX8_moves 35 = .ok (.aload_n 0, 1) := by decide +kernel
theorem dX8_moves_36 : decode cX8_moves 36 = .ok (.getfield 7, 3) := by decide +kernel
theorem dX8_moves_39 : decode cX8_moves 39 = .ok (.if_icmp .ge 37, 3) := by decide +kernel
theorem dX8_moves_42 : decode cX8_moves 42 = .ok (.iload_n 1, 1) := by decide +kernel
theorem dX8_moves_43 : decode cX8_moves 43 = .ok (.iload 8, 2) := by decide +kernel
theorem dX8_moves_45 : decode cX8_moves 45 = .ok (.invokestatic 155, 3) := by decide +kernel
theorem dX8_moves_48 : decode cX8_moves 48 = .ok (.ifCond .eq 22, 3) := by decide +kernel
theorem dX8_moves_51 : decode cX8_moves 51 = .ok (.aload_n 0, 1) := by decide +kernel
theorem dX8_moves_52 : decode cX8_moves 52 = .ok (.getfield 38, 3) := by decide +kernel
theorem dX8_moves_55 : decode cX8_moves 55 = .ok (.iload 8, 2) := by decide +kernel
theorem dX8_moves_57 : decode cX8_moves 57 = .ok (.iload 7, 2) := by decide +kernel
theorem dX8_moves_59 : decode cX8_moves 59 = .ok (.bipush 6, 2) := by decide +kernel
theorem dX8_moves_61 : decode cX8_moves 61 = .ok (.irem, 1) := by decide +kernel
theorem dX8_moves_62 : decode cX8_moves 62 = .ok (.iastore, 1) := by decide +kernel
theorem dX8_moves_63 : decode cX8_moves 63 = .ok (.iload 7, 2) := by decide +kernel
theorem dX8_moves_65 : decode cX8_moves 65 = .ok (.bipush 6, 2) := by decide +kernel
theorem dX8_moves_67 : decode cX8_moves 67 = .ok (.idiv, 1) := by decide +kernel
theorem dX8_moves_68 : decode cX8_moves 68 = .ok (.istore 7, 2) := by decide +kernel
theorem dX8_moves_70 : decode cX8_moves 70 = .ok (.iinc 8 1, 3) := by decide +kernel
theorem dX8_moves_73 : decode cX8_moves 73 = .ok (.goto (-40), 3) := by decide +kernel
theorem dX8_moves_76 : decode cX8_moves 76 = .ok (.aload_n 0, 1) := by decide +kernel
theorem dX8_moves_77 : decode cX8_moves 77 = .ok (.iload_n 2, 1) := by decide +kernel
theorem dX8_moves_78 : decode cX8_moves 78 = .ok (.iload_n 3, 1) := by decide +kernel
theorem dX8_moves_79 : decode cX8_moves 79 = .ok (.invokevirtual 120, 3) := by decide +kernel
theorem dX8_moves_82 : decode cX8_moves 82 = .ok (.istore 8, 2) := by decide +kernel
theorem dX8_moves_84 : decode cX8_moves 84 = .ok (.iload 4, 2) := by decide +kernel
theorem dX8_moves_86 : decode cX8_moves 86 = .ok (.iload_n 2, 1) := by decide +kernel
theorem dX8_moves_87 : decode cX8_moves 87 = .ok (.if_icmp .lt 13, 3) := by decide +kernel
theorem dX8_moves_90 : decode cX8_moves 90 = .ok (.iload 8, 2) := by decide +kernel
theorem dX8_moves_92 : decode cX8_moves 92 = .ok (.iload 4, 2) := by decide +kernel
theorem dX8_moves_94 : decode cX8_moves 94 = .ok (.if_icmp .lt 15, 3) := by decide +kernel
theorem dX8_moves_97 : decode cX8_moves 97 = .ok (.goto 10, 3) := by decide +kernel
theorem dX8_moves_100 : decode cX8_moves 100 = .ok (.iload 8, 2) := by decide +kernel
theorem dX8_moves_102 : decode cX8_moves 102 = .ok (.iload 4, 2) := by decide +kernel
theorem dX8_moves_104 : decode cX8_moves 104 = .ok (.if_icmp .gt 5, 3) := by decide +kernel
theorem dX8_moves_107 : decode cX8_moves 107 = .ok (.iconst 1, 1) := by decide +kernel
theorem dX8_moves_108 : decode cX8_moves 108 = .ok (.ireturn, 1) := by decide +kernel
theorem dX8_moves_109 : decode cX8_moves 109 = .ok (.iinc 6 1, 3) := by decide +kernel
theorem dX8_moves_112 : decode cX8_moves 112 = .ok (.goto (-93), 3) := by decide +kernel
theorem dX8_moves_115 : decode cX8_moves 115 = .ok (.iconst 0, 1) := by decide +kernel
theorem dX8_moves_116 : decode cX8_moves 116 = .ok (.ireturn, 1) := by decide +kernel
set_option maxRecDepth 20000 in
theorem ggX8_move_X8_isHour : GoodIn wsX8_move wsX8_isHour := goodIn_r _ [5, 6, 7, 4, 8] (by decide +kernel) (by decide +kernel)
set_option maxRecDepth 20000 in
theorem gX8_move_X8_isHour : GoodIn wsX8_move (va_wsS RX8 114 yX8_isHour wsX8_isHour) := goodIn_app (goodIn_of _ (by decide +kernel)) ggX8_move_X8_isHour
set_option maxRecDepth 20000 in
theorem ggX8_move_X8_in : GoodIn wsX8_move wsX8_in := goodIn_r _ [8] (by decide +kernel) (by decide +kernel)
set_option maxRecDepth 20000 in
theorem gX8_move_X8_in : GoodIn wsX8_move (va_wsS RX8 69 yX8_in wsX8_in) := goodIn_app (goodIn_of _ (by decide +kernel)) ggX8_move_X8_in
set_option maxRecDepth 20000 in
theorem ggX8_move_X8_bits : GoodIn wsX8_move wsX8_bits := goodIn_r _ [11] (by decide +kernel) (by decide +kernel)
set_option maxRecDepth 20000 in
theorem gX8_move_X8_bits : GoodIn wsX8_move (va_wsS RX8 152 yX8_bits wsX8_bits) := goodIn_app (goodIn_of _ (by decide +kernel)) ggX8_move_X8_bits
set_option maxRecDepth 20000 in
theorem ggX8_move_X8_moves : GoodIn wsX8_move wsX8_moves := goodIn_r _ [15, 1, 16, 17, 18, 19, 4, 20, 21, 22, 9, 10, 11, 23, 24, 25, 26, 27, 28, 29, 30, 31, 32, 33, 34, 35, 36, 37, 38, 39, 40, 41, 42, 43, 44, 45, 46, 47, 48, 49, 50, 51, 52, 53, 6, 7, 8, 54, 55, 56, 57, 58, 59, 60, 61, 62, 63, 64, 65, 66, 67, 68, 69, 70, 71, 72, 73, 74, 75, 76, 77, 78, 79, 80, 81, 82, 83, 84, 85, 86] (by decide +kernel) (by decide +kernel)
set_option maxRecDepth 20000 in
theorem gX8_move_X8_moves : GoodIn wsX8_move (wsV RX8 159 RX8 yX8_moves wsX8_moves) := goodIn_app (goodIn_of _ (by decide +kernel)) ggX8_move_X8_moves
theorem dX8_move_0 : decode cX8_move 0 = .ok (.iload_n 1, 1) := by decide +kernel
theorem dX8_move_1 : decode cX8_move 1 = .ok (.invokestatic 114, 3) := by decide +kernel
theorem dX8_move_4 : decode cX8_move 4 = .ok (.ifCond .eq 20, 3) := by decide +kernel
theorem dX8_move_7 : decode cX8_move 7 = .ok (.iload_n 2, 1) := by decide +kernel
theorem dX8_move_8 : decode cX8_move 8 = .ok (.iconst 1, 1) := by decide +kernel
theorem dX8_move_9 : decode cX8_move 9 = .ok (.bipush 9, 2) := by decide +kernel
theorem dX8_move_11 : decode cX8_move 11 = .ok (.invokestatic 69, 3) := by decide +kernel
theorem dX8_move_14 : decode cX8_move 14 = .ok (.ifCond .eq 10, 3) := by decide +kernel
theorem dX8_move_17 : decode cX8_move 17 = .ok (.iload_n 3, 1) := by decide +kernel
theorem dX8_move_18 : decode cX8_move 18 = .ok (.invokestatic 114, 3) := by decide +kernel
theorem dX8_move_21 : decode cX8_move 21 = .ok (.ifCond .ne 6, 3) := by decide +kernel
theorem dX8_move_24 : decode cX8_move 24 = .ok (.bipush (-2), 2) := by decide +kernel
theorem dX8_move_26 : decode cX8_move 26 = .ok (.ireturn, 1) := by decide +kernel
theorem dX8_move_27 : decode cX8_move 27 = .ok (.bipush (-6), 2) := by decide +kernel
theorem dX8_move_29 : decode cX8_move 29 = .ok (.istore 4, 2) := by decide +kernel
theorem dX8_move_31 : decode cX8_move 31 = .ok (.iconst 0, 1) := by decide +kernel
theorem dX8_move_32 : decode cX8_move 32 = .ok (.istore 5, 2) := by decide +kernel
theorem dX8_move_34 : decode cX8_move 34 = .ok (.iload 5, 2) := by decide +kernel
theorem dX8_move_36 : decode cX8_move 36 = .ok (.iconst 1, 1) := by decide +kernel
theorem dX8_move_37 : decode cX8_move 37 = .ok (.aload_n 0, 1) := by decide +kernel
theorem dX8_move_38 : decode cX8_move 38 = .ok (.getfield 7, 3) := by decide +kernel
theorem dX8_move_41 : decode cX8_move 41 = .ok (.ishl, 1) := by decide +kernel
theorem dX8_move_42 : decode cX8_move 42 = .ok (.if_icmp .ge 60, 3) := by decide +kernel
theorem dX8_move_45 : decode cX8_move 45 = .ok (.iload 4, 2) := by decide +kernel
theorem dX8_move_47 : decode cX8_move 47 = .ok (.ifCond .lt 16, 3) := by decide +kernel
theorem dX8_move_50 : decode cX8_move 50 = .ok (.iload 5, 2) := by decide +kernel
theorem dX8_move_52 : decode cX8_move 52 = .ok (.invokestatic 152, 3) := by decide +kernel
theorem dX8_move_55 : decode cX8_move 55 = .ok (.iload 4, 2) := by decide +kernel
theorem dX8_move_57 : decode cX8_move 57 = .ok (.invokestatic 152, 3) := by decide +kernel
theorem dX8_move_60 : decode cX8_move 60 = .ok (.if_icmp .ge 7, 3) := by decide +kernel
theorem dX8_move_63 : decode cX8_move 63 = .ok (.iconst 1, 1) := by decide +kernel
theorem dX8_move_64 : decode cX8_move 64 = .ok (.goto 4, 3) := by decide +kernel
theorem dX8_move_67 : decode cX8_move 67 = .ok (.iconst 0, 1) := by decide +kernel
theorem dX8_move_68 : decode cX8_move 68 = .ok (.istore 6, 2) := by decide +kernel
theorem dX8_move_70 : decode cX8_move 70 = .ok (.iload 6, 2) := by decide +kernel
theorem dX8_move_72 : decode cX8_move 72 = .ok (.ifCond .eq 20, 3) := by decide +kernel
theorem dX8_move_75 : decode cX8_move 75 = .ok (.aload_n 0, 1) := by decide +kernel
theorem dX8_move_76 : decode cX8_move 76 = .ok (.iload 5, 2) := by decide +kernel
theorem dX8_move_78 : decode cX8_move 78 = .ok (.iload_n 1, 1) := by decide +kernel
theorem dX8_move_79 : decode cX8_move 79 = .ok (.iload_n 2, 1) := by decide +kernel
theorem dX8_move_80 : decode cX8_move 80 = .ok (.iload_n 3, 1) := by decide +kernel
theorem dX8_move_81 : decode cX8_move 81 = .ok (.invokevirtual 159, 3) := by decide +kernel
theorem dX8_move_84 : decode cX8_move 84 = .ok (.ifCond .eq 8, 3) := by decide +kernel
theorem dX8_move_87 : decode cX8_move 87 = .ok (.iload 5, 2) := by decide +kernel
theorem dX8_move_89 : decode cX8_move 89 = .ok (.goto 5, 3) := by decide +kernel
theorem dX8_move_92 : decode cX8_move 92 = .ok (.iload 4, 2) := by decide +kernel
theorem dX8_move_94 : decode cX8_move 94 = .ok (.istore 4, 2) := by decide +kernel
theorem dX8_move_96 : decode cX8_move 96 = .ok (.iinc 5 1, 3) := by decide +kernel
theorem dX8_move_99 : decode cX8_move 99 = .ok (.goto (-65), 3) := by decide +kernel
theorem dX8_move_102 : decode cX8_move 102 = .ok (.iload 4, 2) := by decide +kernel
theorem dX8_move_104 : decode cX8_move 104 = .ok (.ireturn, 1) := by decide +kernel
set_option maxRecDepth 20000 in
theorem ggX8_seen_X8_in : GoodIn wsX8_seen wsX8_in := goodIn_r _ [6] (by decide +kernel) (by decide +kernel)
set_option maxRecDepth 20000 in
theorem gX8_seen_X8_in : GoodIn wsX8_seen (va_wsS RX8 69 yX8_in wsX8_in) := goodIn_app (goodIn_of _ (by decide +kernel)) ggX8_seen_X8_in
set_option maxRecDepth 20000 in
theorem ggX8_seen_X8_isHour : GoodIn wsX8_seen wsX8_isHour := goodIn_r _ [9, 3, 4, 5, 6] (by decide +kernel) (by decide +kernel)
set_option maxRecDepth 20000 in
theorem gX8_seen_X8_isHour : GoodIn wsX8_seen (va_wsS RX8 114 yX8_isHour wsX8_isHour) := goodIn_app (goodIn_of _ (by decide +kernel)) ggX8_seen_X8_isHour
theorem dX8_seen_0 : decode cX8_seen 0 = .ok (.iload_n 1, 1) := by decide +kernel
theorem dX8_seen_1 : decode cX8_seen 1 = .ok (.iconst 0, 1) := by decide +kernel
theorem dX8_seen_2 : decode cX8_seen 2 = .ok (.bipush 30, 2) := by decide +kernel
theorem dX8_seen_4 : decode cX8_seen 4 = .ok (.invokestatic 69, 3) := by decide +kernel
theorem dX8_seen_7 : decode cX8_seen 7 = .ok (.ifCond .eq 10, 3) := by decide +kernel
theorem dX8_seen_10 : decode cX8_seen 10 = .ok (.iload_n 2, 1) := by decide +kernel
theorem dX8_seen_11 : decode cX8_seen 11 = .ok (.invokestatic 114, 3) := by decide +kernel
theorem dX8_seen_14 : decode cX8_seen 14 = .ok (.ifCond .ne 6, 3) := by decide +kernel
theorem dX8_seen_17 : decode cX8_seen 17 = .ok (.bipush (-2), 2) := by decide +kernel
theorem dX8_seen_19 : decode cX8_seen 19 = .ok (.ireturn, 1) := by decide +kernel
theorem dX8_seen_20 : decode cX8_seen 20 = .ok (.aload_n 0, 1) := by decide +kernel
theorem dX8_seen_21 : decode cX8_seen 21 = .ok (.getfield 66, 3) := by decide +kernel
theorem dX8_seen_24 : decode cX8_seen 24 = .ok (.bipush 6, 2) := by decide +kernel
theorem dX8_seen_26 : decode cX8_seen 26 = .ok (.if_icmp .ne 6, 3) := by decide +kernel
theorem dX8_seen_29 : decode cX8_seen 29 = .ok (.bipush (-4), 2) := by decide +kernel
theorem dX8_seen_31 : decode cX8_seen 31 = .ok (.ireturn, 1) := by decide +kernel
theorem dX8_seen_32 : decode cX8_seen 32 = .ok (.aload_n 0, 1) := by decide +kernel
theorem dX8_seen_33 : decode cX8_seen 33 = .ok (.getfield 32, 3) := by decide +kernel
theorem dX8_seen_36 : decode cX8_seen 36 = .ok (.iconst 2, 1) := by decide +kernel
theorem dX8_seen_37 : decode cX8_seen 37 = .ok (.aload_n 0, 1) := by decide +kernel
theorem dX8_seen_38 : decode cX8_seen 38 = .ok (.getfield 66, 3) := by decide +kernel
theorem dX8_seen_41 : decode cX8_seen 41 = .ok (.imul, 1) := by decide +kernel
theorem dX8_seen_42 : decode cX8_seen 42 = .ok (.iload_n 1, 1) := by decide +kernel
theorem dX8_seen_43 : decode cX8_seen 43 = .ok (.iastore, 1) := by decide +kernel
theorem dX8_seen_44 : decode cX8_seen 44 = .ok (.aload_n 0, 1) := by decide +kernel
theorem dX8_seen_45 : decode cX8_seen 45 = .ok (.getfield 32, 3) := by decide +kernel
theorem dX8_seen_48 : decode cX8_seen 48 = .ok (.iconst 2, 1) := by decide +kernel
theorem dX8_seen_49 : decode cX8_seen 49 = .ok (.aload_n 0, 1) := by decide +kernel
theorem dX8_seen_50 : decode cX8_seen 50 = .ok (.getfield 66, 3) := by decide +kernel
theorem dX8_seen_53 : decode cX8_seen 53 = .ok (.imul, 1) := by decide +kernel
theorem dX8_seen_54 : decode cX8_seen 54 = .ok (.iconst 1, 1) := by decide +kernel
theorem dX8_seen_55 : decode cX8_seen 55 = .ok (.iadd, 1) := by decide +kernel
theorem dX8_seen_56 : decode cX8_seen 56 = .ok (.iload_n 2, 1) := by decide +kernel
theorem dX8_seen_57 : decode cX8_seen 57 = .ok (.iastore, 1) := by decide +kernel
theorem dX8_seen_58 : decode cX8_seen 58 = .ok (.aload_n 0, 1) := by decide +kernel
theorem dX8_seen_59 : decode cX8_seen 59 = .ok (.dup, 1) := by decide +kernel
theorem dX8_seen_60 : decode cX8_seen 60 = .ok (.getfield 66, 3) := by decide +kernel
theorem dX8_seen_63 : decode cX8_seen 63 = .ok (.iconst 1, 1) := by decide +kernel
theorem dX8_seen_64 : decode cX8_seen 64 = .ok (.iadd, 1) := by decide +kernel
theorem dX8_seen_65 : decode cX8_seen 65 = .ok (.putfield 66, 3) := by decide +kernel
theorem dX8_seen_68 : decode cX8_seen 68 = .ok (.aload_n 0, 1) := by decide +kernel
theorem dX8_seen_69 : decode cX8_seen 69 = .ok (.getfield 66, 3) := by decide +kernel
theorem dX8_seen_72 : decode cX8_seen 72 = .ok (.ireturn, 1) := by decide +kernel
theorem dX8_forget_0 : decode cX8_forget 0 = .ok (.aload_n 0, 1) := by decide +kernel
theorem dX8_forget_1 : decode cX8_forget 1 = .ok (.getfield 66, 3) := by decide +kernel
theorem dX8_forget_4 : decode cX8_forget 4 = .ok (.istore_n 1, 1) := by decide +kernel
theorem dX8_forget_5 : decode cX8_forget 5 = .ok (.aload_n 0, 1) := by decide +kernel
theorem dX8_forget_6 : decode cX8_forget 6 = .ok (.iconst 0, 1) := by decide +kernel
theorem dX8_forget_7 : decode cX8_forget 7 = .ok (.putfield 66, 3) := by decide +kernel
theorem dX8_forget_10 : decode cX8_forget 10 = .ok (.iload_n 1, 1) := by decide +kernel
theorem dX8_forget_11 : decode cX8_forget 11 = .ok (.ireturn, 1) := by decide +kernel
set_option maxRecDepth 20000 in
theorem ggX8_could_X8_isMember : GoodIn wsX8_could wsX8_isMember := goodIn_r _ [8, 9, 10, 11, 7, 12, 56, 57, 58, 59, 60, 61, 62, 63, 64, 65, 66, 67, 68, 69, 70, 71, 72, 73, 74, 75, 76, 77, 78] (by decide +kernel) (by decide +kernel)
set_option maxRecDepth 20000 in
theorem gX8_could_X8_isMember : GoodIn wsX8_could (wsV RX8 73 RX8 yX8_isMember wsX8_isMember) := goodIn_app (goodIn_of _ (by decide +kernel)) ggX8_could_X8_isMember
set_option maxRecDepth 20000 in
theorem ggX8_could_X8_isHour : GoodIn wsX8_could wsX8_isHour := goodIn_r _ [15, 10, 11, 7, 12] (by decide +kernel) (by decide +kernel)
set_option maxRecDepth 20000 in
theorem gX8_could_X8_isHour : GoodIn wsX8_could (va_wsS RX8 114 yX8_isHour wsX8_isHour) := goodIn_app (goodIn_of _ (by decide +kernel)) ggX8_could_X8_isHour
set_option maxRecDepth 20000 in
theorem ggX8_could_X8_asTold : GoodIn wsX8_could wsX8_asTold := goodIn_r _ [19, 20, 1, 21, 56, 57, 58, 59, 60, 61, 62, 63, 64, 65, 66, 67, 68, 69, 70, 71, 72, 73, 74, 75, 76, 77, 78] (by decide +kernel) (by decide +kernel)
set_option maxRecDepth 20000 in
theorem gX8_could_X8_asTold : GoodIn wsX8_could (wsV RX8 117 RX8 yX8_asTold wsX8_asTold) := goodIn_app (goodIn_of _ (by decide +kernel)) ggX8_could_X8_asTold
set_option maxRecDepth 20000 in
theorem ggX8_could_X8_hourOf : GoodIn wsX8_could wsX8_hourOf := goodIn_r _ [25, 26, 27, 28, 7, 29, 30, 31, 32, 33, 34, 35, 36, 9, 37, 38, 39, 40, 41, 42, 20, 1, 43, 44, 45, 10, 11, 12, 46, 47, 48, 49, 50, 51, 52, 53, 54, 55, 56, 57, 58, 59, 60, 61, 62, 63, 64, 65, 66, 67, 68, 69, 70, 71, 72, 73, 74, 75, 76, 77, 78] (by decide +kernel) (by decide +kernel)
set_option maxRecDepth 20000 in
theorem gX8_could_X8_hourOf : GoodIn wsX8_could (wsV RX8 120 RX8 yX8_hourOf wsX8_hourOf) := goodIn_app (goodIn_of _ (by decide +kernel)) ggX8_could_X8_hourOf
theorem dX8_could_0 : decode cX8_could 0 = .ok (.aload_n 0, 1) := by decide +kernel
theorem dX8_could_1 : decode cX8_could 1 = .ok (.iload_n 1, 1) := by decide +kernel
theorem dX8_could_2 : decode cX8_could 2 = .ok (.invokevirtual 73, 3) := by decide +kernel
theorem dX8_could_5 : decode cX8_could 5 = .ok (.ifCond .ne 5, 3) := by decide +kernel
theorem dX8_could_8 : decode cX8_could 8 = .ok (.iconst (-1), 1) := by decide +kernel
theorem dX8_could_9 : decode cX8_could 9 = .ok (.ireturn, 1) := by decide +kernel
theorem dX8_could_10 : decode cX8_could 10 = .ok (.iload_n 2, 1) := by decide +kernel
theorem dX8_could_11 : decode cX8_could 11 = .ok (.invokestatic 114, 3) := by decide +kernel
theorem dX8_could_14 : decode cX8_could 14 = .ok (.ifCond .ne 6, 3) := by decide +kernel
theorem dX8_could_17 : decode cX8_could 17 = .ok (.bipush (-2), 2) := by decide +kernel
theorem dX8_could_19 : decode cX8_could 19 = .ok (.ireturn, 1) := by decide +kernel
theorem dX8_could_20 : decode cX8_could 20 = .ok (.aload_n 0, 1) := by decide +kernel
theorem dX8_could_21 : decode cX8_could 21 = .ok (.invokevirtual 117, 3) := by decide +kernel
theorem dX8_could_24 : decode cX8_could 24 = .ok (.iconst 0, 1) := by decide +kernel
theorem dX8_could_25 : decode cX8_could 25 = .ok (.istore_n 3, 1) := by decide +kernel
theorem dX8_could_26 : decode cX8_could 26 = .ok (.iconst 0, 1) := by decide +kernel
theorem dX8_could_27 : decode cX8_could 27 = .ok (.istore 4, 2) := by decide +kernel
theorem dX8_could_29 : decode cX8_could 29 = .ok (.iload 4, 2) := by decide +kernel
theorem dX8_could_31 : decode cX8_could 31 = .ok (.bipush 6, 2) := by decide +kernel
theorem dX8_could_33 : decode cX8_could 33 = .ok (.if_icmp .ge 94, 3) := by decide +kernel
theorem dX8_could_36 : decode cX8_could 36 = .ok (.aload_n 0, 1) := by decide +kernel
theorem dX8_could_37 : decode cX8_could 37 = .ok (.getfield 38, 3) := by decide +kernel
theorem dX8_could_40 : decode cX8_could 40 = .ok (.iload_n 1, 1) := by decide +kernel
theorem dX8_could_41 : decode cX8_could 41 = .ok (.iload 4, 2) := by decide +kernel
theorem dX8_could_43 : decode cX8_could 43 = .ok (.iastore, 1) := by decide +kernel
theorem dX8_could_44 : decode cX8_could 44 = .ok (.iconst 1, 1) := by decide +kernel
theorem dX8_could_45 : decode cX8_could 45 = .ok (.istore 5, 2) := by decide +kernel
theorem dX8_could_47 : decode cX8_could 47 = .ok (.iconst 0, 1) := by decide +kernel
theorem dX8_could_48 : decode cX8_could 48 = .ok (.istore 6, 2) := by decide +kernel
theorem dX8_could_50 : decode cX8_could 50 = .ok (.iload 6, 2) := by decide +kernel
theorem dX8_could_52 : decode cX8_could 52 = .ok (.aload_n 0, 1) := by decide +kernel
theorem dX8_could_53 : decode cX8_could 53 = .ok (.getfield 66, 3) := by decide +kernel
theorem dX8_could_56 : decode cX8_could 56 = .ok (.if_icmp .ge 49, 3) := by decide +kernel
theorem dX8_could_59 : decode cX8_could 59 = .ok (.iload 5, 2) := by decide +kernel
theorem dX8_could_61 : decode cX8_could 61 = .ok (.ifCond .eq 35, 3) := by decide +kernel
theorem dX8_could_64 : decode cX8_could 64 = .ok (.aload_n 0, 1) := by decide +kernel
theorem dX8_could_65 : decode cX8_could 65 = .ok (.iload_n 2, 1) := by decide +kernel
theorem dX8_could_66 : decode cX8_could 66 = .ok (.aload_n 0, 1) := by decide +kernel
theorem dX8_could_67 : decode cX8_could 67 = .ok (.getfield 32, 3) := by decide +kernel
theorem dX8_could_70 : decode cX8_could 70 = .ok (.iconst 2, 1) := by decide +kernel
theorem dX8_could_71 : decode cX8_could 71 = .ok (.iload 6, 2) := by decide +kernel
theorem dX8_could_73 : decode cX8_could 73 = .ok (.imul, 1) := by decide +kernel
theorem dX8_could_74 : decode cX8_could 74 = .ok (.iaload, 1) := by decide +kernel
theorem dX8_could_75 : decode cX8_could 75 = .ok (.invokevirtual 120, 3) := by decide +kernel
theorem dX8_could_78 : decode cX8_could 78 = .ok (.aload_n 0, 1) := by decide +kernel
theorem dX8_could_79 : decode cX8_could 79 = .ok (.getfield 32, 3) := by decide +kernel
theorem dX8_could_82 : decode cX8_could 82 = .ok (.iconst 2, 1) := by decide +kernel
theorem dX8_could_83 : decode cX8_could 83 = .ok (.iload 6, 2) := by decide +kernel
theorem dX8_could_85 : decode cX8_could 85 = .ok (.imul, 1) := by decide +kernel
theorem dX8_could_86 : decode cX8_could 86 = .ok (.iconst 1, 1) := by decide +kernel
theorem dX8_could_87 : decode cX8_could 87 = .ok (.iadd, 1) := by decide +kernel
theorem dX8_could_88 : decode cX8_could 88 = .ok (.iaload, 1) := by decide +kernel
theorem dX8_could_89 : decode cX8_could 89 = .ok (.if_icmp .ne 7, 3) := by decide +kernel
theorem dX8_could_92 : decode cX8_could 92 = .ok (.iconst 1, 1) := by decide +kernel
theorem dX8_could_93 : decode cX8_could 93 = .ok (.goto 4, 3) := by decide +kernel
theorem dX8_could_96 : decode cX8_could 96 = .ok (.iconst 0, 1) := by decide +kernel
theorem dX8_could_97 : decode cX8_could 97 = .ok (.istore 5, 2) := by decide +kernel
theorem dX8_could_99 : decode cX8_could 99 = .ok (.iinc 6 1, 3) := by decide +kernel
theorem dX8_could_102 : decode cX8_could 102 = .ok (.goto (-52), 3) := by decide +kernel
theorem dX8_could_105 : decode cX8_could 105 = .ok (.iload_n 3, 1) := by decide +kernel
theorem dX8_could_106 : decode cX8_could 106 = .ok (.iload 5, 2) := by decide +kernel
theorem dX8_could_108 : decode cX8_could 108 = .ok (.ifCond .eq 10, 3) := by decide +kernel
theorem dX8_could_111 : decode cX8_could 111 = .ok (.iconst 1, 1) := by decide +kernel
theorem dX8_could_112 : decode cX8_could 112 = .ok (.iload 4, 2) := by decide +kernel
theorem dX8_could_114 : decode cX8_could 114 = .ok (.ishl, 1) := by decide +kernel
theorem dX8_could_115 : decode cX8_could 115 = .ok (.goto 4, 3) := by decide +kernel
theorem dX8_could_118 : decode cX8_could 118 = .ok (.iconst 0, 1) := by decide +kernel
theorem dX8_could_119 : decode cX8_could 119 = .ok (.ior, 1) := by decide +kernel
theorem dX8_could_120 : decode cX8_could 120 = .ok (.istore_n 3, 1) := by decide +kernel
theorem dX8_could_121 : decode cX8_could 121 = .ok (.iinc 4 1, 3) := by decide +kernel
theorem dX8_could_124 : decode cX8_could 124 = .ok (.goto (-95), 3) := by decide +kernel
theorem dX8_could_127 : decode cX8_could 127 = .ok (.iload_n 3, 1) := by decide +kernel
theorem dX8_could_128 : decode cX8_could 128 = .ok (.ireturn, 1) := by decide +kernel
theorem dX8_power_0 : decode cX8_power 0 = .ok (.lconst 1, 1) := by decide +kernel
theorem dX8_power_1 : decode cX8_power 1 = .ok (.lstore_n 3, 1) := by decide +kernel
theorem dX8_power_2 : decode cX8_power 2 = .ok (.iconst 0, 1) := by decide +kernel
theorem dX8_power_3 : decode cX8_power 3 = .ok (.istore 5, 2) := by decide +kernel
theorem dX8_power_5 : decode cX8_power 5 = .ok (.iload 5, 2) := by decide +kernel
theorem dX8_power_7 : decode cX8_power 7 = .ok (.iload_n 2, 1) := by decide +kernel
theorem dX8_power_8 : decode cX8_power 8 = .ok (.if_icmp .ge 13, 3) := by decide +kernel
theorem dX8_power_11 : decode cX8_power 11 = .ok (.lload_n 3, 1) := by decide +kernel
theorem dX8_power_12 : decode cX8_power 12 = .ok (.lload_n 0, 1) := by decide +kernel
theorem dX8_power_13 : decode cX8_power 13 = .ok (.lmul, 1) := by decide +kernel
theorem dX8_power_14 : decode cX8_power 14 = .ok (.lstore_n 3, 1) := by decide +kernel
theorem dX8_power_15 : decode cX8_power 15 = .ok (.iinc 5 1, 3) := by decide +kernel
theorem dX8_power_18 : decode cX8_power 18 = .ok (.goto (-13), 3) := by decide +kernel
theorem dX8_power_21 : decode cX8_power 21 = .ok (.lload_n 3, 1) := by decide +kernel
theorem dX8_power_22 : decode cX8_power 22 = .ok (.lreturn, 1) := by decide +kernel
set_option maxRecDepth 20000 in
theorem ggX8_rain_X8_isHour : GoodIn wsX8_rain wsX8_isHour := goodIn_r _ [7, 8, 9, 6, 10] (by decide +kernel) (by decide +kernel)
set_option maxRecDepth 20000 in
theorem gX8_rain_X8_isHour : GoodIn wsX8_rain (va_wsS RX8 114 yX8_isHour wsX8_isHour) := goodIn_app (goodIn_of _ (by decide +kernel)) ggX8_rain_X8_isHour
set_option maxRecDepth 20000 in
theorem ggX8_rain_X8_in : GoodIn wsX8_rain wsX8_in := goodIn_r _ [10] (by decide +kernel) (by decide +kernel)
set_option maxRecDepth 20000 in
theorem gX8_rain_X8_in : GoodIn wsX8_rain (va_wsS RX8 69 yX8_in wsX8_in) := goodIn_app (goodIn_of _ (by decide +kernel)) ggX8_rain_X8_in
set_option maxRecDepth 20000 in
theorem ggX8_rain_X8_asTold : GoodIn wsX8_rain wsX8_asTold := goodIn_r _ [14, 2, 15, 16, 54, 55, 56, 57, 58, 59, 60, 61, 62, 63, 64, 65, 66, 67, 68, 69, 70, 71, 72, 73, 74, 75, 76] (by decide +kernel) (by decide +kernel)
set_option maxRecDepth 20000 in
theorem gX8_rain_X8_asTold : GoodIn wsX8_rain (wsV RX8 117 RX8 yX8_asTold wsX8_asTold) := goodIn_app (goodIn_of _ (by decide +kernel)) ggX8_rain_X8_asTold
set_option maxRecDepth 20000 in
theorem ggX8_rain_X8_has : GoodIn wsX8_rain wsX8_has := goodIn_r _ [19] (by decide +kernel) (by decide +kernel)
set_option maxRecDepth 20000 in
theorem gX8_rain_X8_has : GoodIn wsX8_rain (va_wsS RX8 155 yX8_has wsX8_has) := goodIn_app (goodIn_of _ (by decide +kernel)) ggX8_rain_X8_has
set_option maxRecDepth 20000 in
theorem ggX8_rain_X8_nextOf : GoodIn wsX8_rain wsX8_nextOf := goodIn_r _ [23, 24, 25, 26, 27, 28, 29, 6, 30, 31, 32, 33, 34, 35, 36, 37, 2, 15, 38, 39, 40, 8, 9, 10, 41, 42, 43, 44, 45, 46, 47, 48, 49, 50, 54, 55, 56, 57, 58, 59, 60, 61, 62, 63, 64, 65, 66, 67, 68, 69, 70, 71, 72, 73, 74, 75, 76] (by decide +kernel) (by decide +kernel)
set_option maxRecDepth 20000 in
theorem gX8_rain_X8_nextOf : GoodIn wsX8_rain (wsV RX8 111 RX8 yX8_nextOf wsX8_nextOf) := goodIn_app (goodIn_of _ (by decide +kernel)) ggX8_rain_X8_nextOf
set_option maxRecDepth 20000 in
theorem ggX8_rain_X8_power : GoodIn wsX8_rain wsX8_power := goodIn_r _ [53] (by decide +kernel) (by decide +kernel)
set_option maxRecDepth 20000 in
theorem gX8_rain_X8_power : GoodIn wsX8_rain (va_wsS RX8 165 yX8_power wsX8_power) := goodIn_app (goodIn_of _ (by decide +kernel)) ggX8_rain_X8_power
theorem dX8_rain_0 : decode cX8_rain 0 = .ok (.iload_n 1, 1) := by decide +kernel
theorem dX8_rain_1 : decode cX8_rain 1 = .ok (.invokestatic 114, 3) := by decide +kernel
theorem dX8_rain_4 : decode cX8_rain 4 = .ok (.ifCond .eq 44, 3) := by decide +kernel
theorem dX8_rain_7 : decode cX8_rain 7 = .ok (.iload_n 2, 1) := by decide +kernel
theorem dX8_rain_8 : decode cX8_rain 8 = .ok (.iconst 0, 1) := by decide +kernel
theorem dX8_rain_9 : decode cX8_rain 9 = .ok (.bipush 8, 2) := by decide +kernel
theorem dX8_rain_11 : decode cX8_rain 11 = .ok (.invokestatic 69, 3) := by decide +kernel
theorem dX8_rain_14 : decode cX8_rain 14 = .ok (.ifCond .eq 34, 3) := by decide +kernel
theorem dX8_rain_17 : decode cX8_rain 17 = .ok (.iload_n 3, 1) := by decide +kernel
theorem dX8_rain_18 : decode cX8_rain 18 = .ok (.iconst 0, 1) := by decide +kernel
theorem dX8_rain_19 : decode cX8_rain 19 = .ok (.bipush 10, 2) := by decide +kernel
theorem dX8_rain_21 : decode cX8_rain 21 = .ok (.invokestatic 69, 3) := by decide +kernel
theorem dX8_rain_24 : decode cX8_rain 24 = .ok (.ifCond .eq 24, 3) := by decide +kernel
theorem dX8_rain_27 : decode cX8_rain 27 = .ok (.iload 4, 2) := by decide +kernel
theorem dX8_rain_29 : decode cX8_rain 29 = .ok (.iconst 0, 1) := by decide +kernel
theorem dX8_rain_30 : decode cX8_rain 30 = .ok (.bipush 9, 2) := by decide +kernel
theorem dX8_rain_32 : decode cX8_rain 32 = .ok (.invokestatic 69, 3) := by decide +kernel
theorem dX8_rain_35 : decode cX8_rain 35 = .ok (.ifCond .eq 13, 3) := by decide +kernel
theorem dX8_rain_38 : decode cX8_rain 38 = .ok (.iload 5, 2) := by decide +kernel
theorem dX8_rain_40 : decode cX8_rain 40 = .ok (.iconst 0, 1) := by decide +kernel
theorem dX8_rain_41 : decode cX8_rain 41 = .ok (.iconst 1, 1) := by decide +kernel
theorem dX8_rain_42 : decode cX8_rain 42 = .ok (.invokestatic 69, 3) := by decide +kernel
theorem dX8_rain_45 : decode cX8_rain 45 = .ok (.ifCond .ne 7, 3) := by decide +kernel
theorem dX8_rain_48 : decode cX8_rain 48 = .ok (.ldc2_w 163, 3) := by decide +kernel
theorem dX8_rain_51 : decode cX8_rain 51 = .ok (.lreturn, 1) := by decide +kernel
theorem dX8_rain_52 : decode cX8_rain 52 = .ok (.aload_n 0, 1) := by decide +kernel
theorem dX8_rain_53 : decode cX8_rain 53 = .ok (.invokevirtual 117, 3) := by decide +kernel
theorem dX8_rain_56 : decode cX8_rain 56 = .ok (.lconst 0, 1) := by decide +kernel
theorem dX8_rain_57 : decode cX8_rain 57 = .ok (.lstore 6, 2) := by decide +kernel
theorem dX8_rain_59 : decode cX8_rain 59 = .ok (.iconst 0, 1) := by decide +kernel
theorem dX8_rain_60 : decode cX8_rain 60 = .ok (.istore 8, 2) := by decide +kernel
theorem dX8_rain_62 : decode cX8_rain 62 = .ok (.iload 8, 2) := by decide +kernel
theorem dX8_rain_64 : decode cX8_rain 64 = .ok (.iconst 1, 1) := by decide +kernel
theorem dX8_rain_65 : decode cX8_rain 65 = .ok (.iload_n 2, 1) := by decide +kernel
theorem dX8_rain_66 : decode cX8_rain 66 = .ok (.ishl, 1) := by decide +kernel
theorem dX8_rain_67 : decode cX8_rain 67 = .ok (.if_icmp .ge 107, 3) := by decide +kernel
theorem dX8_rain_70 : decode cX8_rain 70 = .ok (.iload_n 1, 1) := by decide +kernel
theorem dX8_rain_71 : decode cX8_rain 71 = .ok (.istore 9, 2) := by decide +kernel
theorem dX8_rain_73 : decode cX8_rain 73 = .ok (.iconst 0, 1) := by decide +kernel
theorem dX8_rain_74 : decode cX8_rain 74 = .ok (.istore 10, 2) := by decide +kernel
theorem dX8_rain_76 : decode cX8_rain 76 = .ok (.iconst 0, 1) := by decide +kernel
theorem dX8_rain_77 : decode cX8_rain 77 = .ok (.istore 11, 2) := by decide +kernel
theorem dX8_rain_79 : decode cX8_rain 79 = .ok (.iload 11, 2) := by decide +kernel
theorem dX8_rain_81 : decode cX8_rain 81 = .ok (.iload_n 2, 1) := by decide +kernel
theorem dX8_rain_82 : decode cX8_rain 82 = .ok (.if_icmp .ge 57, 3) := by decide +kernel
theorem dX8_rain_85 : decode cX8_rain 85 = .ok (.aload_n 0, 1) := by decide +kernel
theorem dX8_rain_86 : decode cX8_rain 86 = .ok (.iload 8, 2) := by decide +kernel
theorem dX8_rain_88 : decode cX8_rain 88 = .ok (.iload 11, 2) := by decide +kernel
theorem dX8_rain_90 : decode cX8_rain 90 = .ok (.invokestatic 155, 3) := by decide +kernel
theorem dX8_rain_93 : decode cX8_rain 93 = .ok (.ifCond .eq 8, 3) := by decide +kernel
theorem dX8_rain_96 : decode cX8_rain 96 = .ok (.iload 4, 2) := by decide +kernel
theorem dX8_rain_98 : decode cX8_rain 98 = .ok (.goto 4, 3) := by decide +kernel
theorem dX8_rain_101 : decode cX8_rain 101 = .ok (.iconst 0, 1) := by decide +kernel
theorem dX8_rain_102 : decode cX8_rain 102 = .ok (.putfield 93, 3) := by decide +kernel
theorem dX8_rain_105 : decode cX8_rain 105 = .ok (.iload 10, 2) := by decide +kernel
theorem dX8_rain_107 : decode cX8_rain 107 = .ok (.iload 8, 2) := by decide +kernel
theorem dX8_rain_109 : decode cX8_rain 109 = .ok (.iload 11, 2) := by decide +kernel
theorem dX8_rain_111 : decode cX8_rain 111 = .ok (.invokestatic 155, 3) := by decide +kernel
theorem dX8_rain_114 : decode cX8_rain 114 = .ok (.ifCond .eq 7, 3) := by decide +kernel
theorem dX8_rain_117 : decode cX8_rain 117 = .ok (.iconst 1, 1) := by decide +kernel
theorem dX8_rain_118 : decode cX8_rain 118 = .ok (.goto 4, 3) := by decide +kernel
theorem dX8_rain_121 : decode cX8_rain 121 = .ok (.iconst 0, 1) := by decide +kernel
theorem dX8_rain_122 : decode cX8_rain 122 = .ok (.iadd, 1) := by decide +kernel
theorem dX8_rain_123 : decode cX8_rain 123 = .ok (.istore 10, 2) := by decide +kernel
theorem dX8_rain_125 : decode cX8_rain 125 = .ok (.aload_n 0, 1) := by decide +kernel
theorem dX8_rain_126 : decode cX8_rain 126 = .ok (.iload 9, 2) := by decide +kernel
theorem dX8_rain_128 : decode cX8_rain 128 = .ok (.invokevirtual 111, 3) := by decide +kernel
theorem dX8_rain_131 : decode cX8_rain 131 = .ok (.istore 9, 2) := by decide +kernel
theorem dX8_rain_133 : decode cX8_rain 133 = .ok (.iinc 11 1, 3) := by decide +kernel
theorem dX8_rain_136 : decode cX8_rain 136 = .ok (.goto (-57), 3) := by decide +kernel
theorem dX8_rain_139 : decode cX8_rain 139 = .ok (.lload 6, 2) := by decide +kernel
theorem dX8_rain_141 : decode cX8_rain 141 = .ok (.iload 9, 2) := by decide +kernel
theorem dX8_rain_143 : decode cX8_rain 143 = .ok (.i2l, 1) := by decide +kernel
theorem dX8_rain_144 : decode cX8_rain 144 = .ok (.iload_n 3, 1) := by decide +kernel
theorem dX8_rain_145 : decode cX8_rain 145 = .ok (.i2l, 1) := by decide +kernel
theorem dX8_rain_146 : decode cX8_rain 146 = .ok (.iload 10, 2) := by decide +kernel
theorem dX8_rain_148 : decode cX8_rain 148 = .ok (.invokestatic 165, 3) := by decide +kernel
theorem dX8_rain_151 : decode cX8_rain 151 = .ok (.lmul, 1) := by decide +kernel
theorem dX8_rain_152 : decode cX8_rain 152 = .ok (.bipush 10, 2) := by decide +kernel
theorem dX8_rain_154 : decode cX8_rain 154 = .ok (.iload_n 3, 1) := by decide +kernel
theorem dX8_rain_155 : decode cX8_rain 155 = .ok (.isub, 1) := by decide +kernel
theorem dX8_rain_156 : decode cX8_rain 156 = .ok (.i2l, 1) := by decide +kernel
theorem dX8_rain_157 : decode cX8_rain 157 = .ok (.iload_n 2, 1) := by decide +kernel
theorem dX8_rain_158 : decode cX8_rain 158 = .ok (.iload 10, 2) := by decide +kernel
theorem dX8_rain_160 : decode cX8_rain 160 = .ok (.isub, 1) := by decide +kernel
theorem dX8_rain_161 : decode cX8_rain 161 = .ok (.invokestatic 165, 3) := by decide +kernel
theorem dX8_rain_164 : decode cX8_rain 164 = .ok (.lmul, 1) := by decide +kernel
theorem dX8_rain_165 : decode cX8_rain 165 = .ok (.ladd, 1) := by decide +kernel
theorem dX8_rain_166 : decode cX8_rain 166 = .ok (.lstore 6, 2) := by decide +kernel
theorem dX8_rain_168 : decode cX8_rain 168 = .ok (.iinc 8 1, 3) := by decide +kernel
theorem dX8_rain_171 : decode cX8_rain 171 = .ok (.goto (-109), 3) := by decide +kernel
theorem dX8_rain_174 : decode cX8_rain 174 = .ok (.lload 6, 2) := by decide +kernel
theorem dX8_rain_176 : decode cX8_rain 176 = .ok (.lstore 8, 2) := by decide +kernel
theorem dX8_rain_178 : decode cX8_rain 178 = .ok (.ldc2_w 169, 3) := by decide +kernel
theorem dX8_rain_181 : decode cX8_rain 181 = .ok (.iload_n 2, 1) := by decide +kernel
theorem dX8_rain_182 : decode cX8_rain 182 = .ok (.invokestatic 165, 3) := by decide +kernel
theorem dX8_rain_185 : decode cX8_rain 185 = .ok (.lstore 10, 2) := by decide +kernel
theorem dX8_rain_187 : decode cX8_rain 187 = .ok (.lload 10, 2) := by decide +kernel
theorem dX8_rain_189 : decode cX8_rain 189 = .ok (.lconst 0, 1) := by decide +kernel
theorem dX8_rain_190 : decode cX8_rain 190 = .ok (.lcmp, 1) := by decide +kernel
theorem dX8_rain_191 : decode cX8_rain 191 = .ok (.ifCond .eq 21, 3) := by decide +kernel
theorem dX8_rain_194 : decode cX8_rain 194 = .ok (.lload 8, 2) := by decide +kernel
theorem dX8_rain_196 : decode cX8_rain 196 = .ok (.lload 10, 2) := by decide +kernel
theorem dX8_rain_198 : decode cX8_rain 198 = .ok (.lrem, 1) := by decide +kernel
theorem dX8_rain_199 : decode cX8_rain 199 = .ok (.lstore 12, 2) := by decide +kernel
theorem dX8_rain_201 : decode cX8_rain 201 = .ok (.lload 10, 2) := by decide +kernel
theorem dX8_rain_203 : decode cX8_rain 203 = .ok (.lstore 8, 2) := by decide +kernel
theorem dX8_rain_205 : decode cX8_rain 205 = .ok (.lload 12, 2) := by decide +kernel
theorem dX8_rain_207 : decode cX8_rain 207 = .ok (.lstore 10, 2) := by decide +kernel
theorem dX8_rain_209 : decode cX8_rain 209 = .ok (.goto (-22), 3) := by decide +kernel
theorem dX8_rain_212 : decode cX8_rain 212 = .ok (.iload 5, 2) := by decide +kernel
theorem dX8_rain_214 : decode cX8_rain 214 = .ok (.ifCond .ne 11, 3) := by decide +kernel
theorem dX8_rain_217 : decode cX8_rain 217 = .ok (.lload 6, 2) := by decide +kernel
theorem dX8_rain_219 : decode cX8_rain 219 = .ok (.lload 8, 2) := by decide +kernel
theorem dX8_rain_221 : decode cX8_rain 221 = .ok (.ldiv, 1) := by decide +kernel
theorem dX8_rain_222 : decode cX8_rain 222 = .ok (.goto 13, 3) := by decide +kernel
theorem dX8_rain_225 : decode cX8_rain 225 = .ok (.ldc2_w 169, 3) := by decide +kernel
theorem dX8_rain_228 : decode cX8_rain 228 = .ok (.iload_n 2, 1) := by decide +kernel
theorem dX8_rain_229 : decode cX8_rain 229 = .ok (.invokestatic 165, 3) := by decide +kernel
theorem dX8_rain_232 : decode cX8_rain 232 = .ok (.lload 8, 2) := by decide +kernel
theorem dX8_rain_234 : decode cX8_rain 234 = .ok (.ldiv, 1) := by decide +kernel
theorem dX8_rain_235 : decode cX8_rain 235 = .ok (.lreturn, 1) := by decide +kernel
set_option maxRecDepth 20000 in
theorem ggX8_year_X8_in : GoodIn wsX8_year wsX8_in := goodIn_r _ [9] (by decide +kernel) (by decide +kernel)
set_option maxRecDepth 20000 in
theorem gX8_year_X8_in : GoodIn wsX8_year (va_wsS RX8 69 yX8_in wsX8_in) := goodIn_app (goodIn_of _ (by decide +kernel)) ggX8_year_X8_in
set_option maxRecDepth 20000 in
theorem ggX8_year_X8_isHour : GoodIn wsX8_year wsX8_isHour := goodIn_r _ [12, 6, 7, 8, 9] (by decide +kernel) (by decide +kernel)
set_option maxRecDepth 20000 in
theorem gX8_year_X8_isHour : GoodIn wsX8_year (va_wsS RX8 114 yX8_isHour wsX8_isHour) := goodIn_app (goodIn_of _ (by decide +kernel)) ggX8_year_X8_isHour
set_option maxRecDepth 20000 in
theorem ggX8_year_X8_asTold : GoodIn wsX8_year wsX8_asTold := goodIn_r _ [16, 17, 3, 4, 48, 49, 50, 51, 52, 53, 54, 55, 56, 57, 58, 59, 60, 61, 62, 63, 64, 65, 66, 67, 68, 69, 70] (by decide +kernel) (by decide +kernel)
set_option maxRecDepth 20000 in
theorem gX8_year_X8_asTold : GoodIn wsX8_year (wsV RX8 117 RX8 yX8_asTold wsX8_asTold) := goodIn_app (goodIn_of _ (by decide +kernel)) ggX8_year_X8_asTold
set_option maxRecDepth 20000 in
theorem ggX8_year_X8_nextOf : GoodIn wsX8_year wsX8_nextOf := goodIn_r _ [21, 22, 23, 24, 25, 26, 27, 8, 28, 1, 29, 30, 31, 32, 33, 34, 17, 3, 35, 36, 37, 6, 7, 9, 38, 39, 40, 41, 42, 43, 44, 45, 46, 47, 48, 49, 50, 51, 52, 53, 54, 55, 56, 57, 58, 59, 60, 61, 62, 63, 64, 65, 66, 67, 68, 69, 70] (by decide +kernel) (by decide +kernel)
set_option maxRecDepth 20000 in
theorem gX8_year_X8_nextOf : GoodIn wsX8_year (wsV RX8 111 RX8 yX8_nextOf wsX8_nextOf) := goodIn_app (goodIn_of _ (by decide +kernel)) ggX8_year_X8_nextOf
theorem dX8_year_0 : decode cX8_year 0 = .ok (.iload_n 1, 1) := by decide +kernel
theorem dX8_year_1 : decode cX8_year 1 = .ok (.iconst 0, 1) := by decide +kernel
theorem dX8_year_2 : decode cX8_year 2 = .ok (.sipush 9999, 3) := by decide +kernel
theorem dX8_year_5 : decode cX8_year 5 = .ok (.invokestatic 69, 3) := by decide +kernel
theorem dX8_year_8 : decode cX8_year 8 = .ok (.ifCond .eq 30, 3) := by decide +kernel
theorem dX8_year_11 : decode cX8_year 11 = .ok (.iload_n 2, 1) := by decide +kernel
theorem dX8_year_12 : decode cX8_year 12 = .ok (.iconst 1, 1) := by decide +kernel
theorem dX8_year_13 : decode cX8_year 13 = .ok (.bipush 99, 2) := by decide +kernel
theorem dX8_year_15 : decode cX8_year 15 = .ok (.invokestatic 69, 3) := by decide +kernel
theorem dX8_year_18 : decode cX8_year 18 = .ok (.ifCond .eq 20, 3) := by decide +kernel
theorem dX8_year_21 : decode cX8_year 21 = .ok (.iload_n 3, 1) := by decide +kernel
theorem dX8_year_22 : decode cX8_year 22 = .ok (.invokestatic 114, 3) := by decide +kernel
theorem dX8_year_25 : decode cX8_year 25 = .ok (.ifCond .eq 13, 3) := by decide +kernel
theorem dX8_year_28 : decode cX8_year 28 = .ok (.iload 4, 2) := by decide +kernel
theorem dX8_year_30 : decode cX8_year 30 = .ok (.iconst 0, 1) := by decide +kernel
theorem dX8_year_31 : decode cX8_year 31 = .ok (.iconst 2, 1) := by decide +kernel
theorem dX8_year_32 : decode cX8_year 32 = .ok (.invokestatic 69, 3) := by decide +kernel
theorem dX8_year_35 : decode cX8_year 35 = .ok (.ifCond .ne 6, 3) := by decide +kernel
theorem dX8_year_38 : decode cX8_year 38 = .ok (.bipush (-2), 2) := by decide +kernel
theorem dX8_year_40 : decode cX8_year 40 = .ok (.ireturn, 1) := by decide +kernel
theorem dX8_year_41 : decode cX8_year 41 = .ok (.aload_n 0, 1) := by decide +kernel
theorem dX8_year_42 : decode cX8_year 42 = .ok (.invokevirtual 117, 3) := by decide +kernel
theorem dX8_year_45 : decode cX8_year 45 = .ok (.iload_n 1, 1) := by decide +kernel
theorem dX8_year_46 : decode cX8_year 46 = .ok (.istore 5, 2) := by decide +kernel
theorem dX8_year_48 : decode cX8_year 48 = .ok (.iload_n 3, 1) := by decide +kernel
theorem dX8_year_49 : decode cX8_year 49 = .ok (.istore 6, 2) := by decide +kernel
theorem dX8_year_51 : decode cX8_year 51 = .ok (.iload_n 3, 1) := by decide +kernel
theorem dX8_year_52 : decode cX8_year 52 = .ok (.istore 7, 2) := by decide +kernel
theorem dX8_year_54 : decode cX8_year 54 = .ok (.iconst 0, 1) := by decide +kernel
theorem dX8_year_55 : decode cX8_year 55 = .ok (.istore 8, 2) := by decide +kernel
theorem dX8_year_57 : decode cX8_year 57 = .ok (.iconst 0, 1) := by decide +kernel
theorem dX8_year_58 : decode cX8_year 58 = .ok (.istore 9, 2) := by decide +kernel
theorem dX8_year_60 : decode cX8_year 60 = .ok (.iload 9, 2) := by decide +kernel
theorem dX8_year_62 : decode cX8_year 62 = .ok (.iload_n 2, 1) := by decide +kernel
theorem dX8_year_63 : decode cX8_year 63 = .ok (.if_icmp .ge 100, 3) := by decide +kernel
theorem dX8_year_66 : decode cX8_year 66 = .ok (.iconst 0, 1) := by decide +kernel
theorem dX8_year_67 : decode cX8_year 67 = .ok (.istore 10, 2) := by decide +kernel
theorem dX8_year_69 : decode cX8_year 69 = .ok (.iload 10, 2) := by decide +kernel
theorem dX8_year_71 : decode cX8_year 71 = .ok (.aload_n 0, 1) := by decide +kernel
theorem dX8_year_72 : decode cX8_year 72 = .ok (.getfield 7, 3) := by decide +kernel
theorem dX8_year_75 : decode cX8_year 75 = .ok (.if_icmp .ge 58, 3) := by decide +kernel
theorem dX8_year_78 : decode cX8_year 78 = .ok (.bipush 75, 2) := by decide +kernel
theorem dX8_year_80 : decode cX8_year 80 = .ok (.iload 5, 2) := by decide +kernel
theorem dX8_year_82 : decode cX8_year 82 = .ok (.imul, 1) := by decide +kernel
theorem dX8_year_83 : decode cX8_year 83 = .ok (.bipush 74, 2) := by decide +kernel
theorem dX8_year_85 : decode cX8_year 85 = .ok (.iadd, 1) := by decide +kernel
theorem dX8_year_86 : decode cX8_year 86 = .ok (.ldc 171, 2) := by decide +kernel
theorem dX8_year_88 : decode cX8_year 88 = .ok (.irem, 1) := by decide +kernel
theorem dX8_year_89 : decode cX8_year 89 = .ok (.istore 5, 2) := by decide +kernel
theorem dX8_year_91 : decode cX8_year 91 = .ok (.aload_n 0, 1) := by decide +kernel
theorem dX8_year_92 : decode cX8_year 92 = .ok (.getfield 38, 3) := by decide +kernel
theorem dX8_year_95 : decode cX8_year 95 = .ok (.iload 10, 2) := by decide +kernel
theorem dX8_year_97 : decode cX8_year 97 = .ok (.aload_n 0, 1) := by decide +kernel
theorem dX8_year_98 : decode cX8_year 98 = .ok (.getfield 17, 3) := by decide +kernel
theorem dX8_year_101 : decode cX8_year 101 = .ok (.iload 10, 2) := by decide +kernel
theorem dX8_year_103 : decode cX8_year 103 = .ok (.iaload, 1) := by decide +kernel
theorem dX8_year_104 : decode cX8_year 104 = .ok (.iload 5, 2) := by decide +kernel
theorem dX8_year_106 : decode cX8_year 106 = .ok (.iconst 3, 1) := by decide +kernel
theorem dX8_year_107 : decode cX8_year 107 = .ok (.irem, 1) := by decide +kernel
theorem dX8_year_108 : decode cX8_year 108 = .ok (.iadd, 1) := by decide +kernel
theorem dX8_year_109 : decode cX8_year 109 = .ok (.iastore, 1) := by decide +kernel
theorem dX8_year_110 : decode cX8_year 110 = .ok (.iload 8, 2) := by decide +kernel
theorem dX8_year_112 : decode cX8_year 112 = .ok (.aload_n 0, 1) := by decide +kernel
theorem dX8_year_113 : decode cX8_year 113 = .ok (.getfield 23, 3) := by decide +kernel
theorem dX8_year_116 : decode cX8_year 116 = .ok (.aload_n 0, 1) := by decide +kernel
theorem dX8_year_117 : decode cX8_year 117 = .ok (.getfield 38, 3) := by decide +kernel
theorem dX8_year_120 : decode cX8_year 120 = .ok (.iload 10, 2) := by decide +kernel
theorem dX8_year_122 : decode cX8_year 122 = .ok (.iaload, 1) := by decide +kernel
theorem dX8_year_123 : decode cX8_year 123 = .ok (.imul, 1) := by decide +kernel
theorem dX8_year_124 : decode cX8_year 124 = .ok (.iadd, 1) := by decide +kernel
theorem dX8_year_125 : decode cX8_year 125 = .ok (.istore 8, 2) := by decide +kernel
theorem dX8_year_127 : decode cX8_year 127 = .ok (.iinc 10 1, 3) := by decide +kernel
theorem dX8_year_130 : decode cX8_year 130 = .ok (.goto (-61), 3) := by decide +kernel
theorem dX8_year_133 : decode cX8_year 133 = .ok (.aload_n 0, 1) := by decide +kernel
theorem dX8_year_134 : decode cX8_year 134 = .ok (.iload 6, 2) := by decide +kernel
theorem dX8_year_136 : decode cX8_year 136 = .ok (.invokevirtual 111, 3) := by decide +kernel
theorem dX8_year_139 : decode cX8_year 139 = .ok (.istore 6, 2) := by decide +kernel
theorem dX8_year_141 : decode cX8_year 141 = .ok (.iload 6, 2) := by decide +kernel
theorem dX8_year_143 : decode cX8_year 143 = .ok (.iload 7, 2) := by decide +kernel
theorem dX8_year_145 : decode cX8_year 145 = .ok (.if_icmp .le 8, 3) := by decide +kernel
theorem dX8_year_148 : decode cX8_year 148 = .ok (.iload 6, 2) := by decide +kernel
theorem dX8_year_150 : decode cX8_year 150 = .ok (.goto 5, 3) := by decide +kernel
theorem dX8_year_153 : decode cX8_year 153 = .ok (.iload 7, 2) := by decide +kernel
theorem dX8_year_155 : decode cX8_year 155 = .ok (.istore 7, 2) := by decide +kernel
theorem dX8_year_157 : decode cX8_year 157 = .ok (.iinc 9 1, 3) := by decide +kernel
theorem dX8_year_160 : decode cX8_year 160 = .ok (.goto (-100), 3) := by decide +kernel
theorem dX8_year_163 : decode cX8_year 163 = .ok (.iload 4, 2) := by decide +kernel
theorem dX8_year_165 : decode cX8_year 165 = .ok (.ifCond .ne 8, 3) := by decide +kernel
theorem dX8_year_168 : decode cX8_year 168 = .ok (.iload 6, 2) := by decide +kernel
theorem dX8_year_170 : decode cX8_year 170 = .ok (.goto 16, 3) := by decide +kernel
theorem dX8_year_173 : decode cX8_year 173 = .ok (.iload 4, 2) := by decide +kernel
theorem dX8_year_175 : decode cX8_year 175 = .ok (.iconst 1, 1) := by decide +kernel
theorem dX8_year_176 : decode cX8_year 176 = .ok (.if_icmp .ne 8, 3) := by decide +kernel
theorem dX8_year_179 : decode cX8_year 179 = .ok (.iload 7, 2) := by decide +kernel
theorem dX8_year_181 : decode cX8_year 181 = .ok (.goto 5, 3) := by decide +kernel
theorem dX8_year_184 : decode cX8_year 184 = .ok (.iload 8, 2) := by decide +kernel
theorem dX8_year_186 : decode cX8_year 186 = .ok (.ireturn, 1) := by decide +kernel
set_option maxRecDepth 20000 in
theorem ggX8_image_X8_in : GoodIn wsX8_image wsX8_in := goodIn_r _ [15] (by decide +kernel) (by decide +kernel)
set_option maxRecDepth 20000 in
theorem gX8_image_X8_in : GoodIn wsX8_image (va_wsS RX8 69 yX8_in wsX8_in) := goodIn_app (goodIn_of _ (by decide +kernel)) ggX8_image_X8_in
theorem dX8_image_0 : decode cX8_image 0 = .ok (.iload_n 1, 1) := by decide +kernel
theorem dX8_image_1 : decode cX8_image 1 = .ok (.iconst 0, 1) := by decide +kernel
theorem dX8_image_2 : decode cX8_image 2 = .ok (.iconst 1, 1) := by decide +kernel
theorem dX8_image_3 : decode cX8_image 3 = .ok (.invokestatic 69, 3) := by decide +kernel
theorem dX8_image_6 : decode cX8_image 6 = .ok (.ifCond .ne 6, 3) := by decide +kernel
theorem dX8_image_9 : decode cX8_image 9 = .ok (.bipush (-2), 2) := by decide +kernel
theorem dX8_image_11 : decode cX8_image 11 = .ok (.ireturn, 1) := by decide +kernel
theorem dX8_image_12 : decode cX8_image 12 = .ok (.bipush 56, 2) := by decide +kernel
theorem dX8_image_14 : decode cX8_image 14 = .ok (.iload_n 1, 1) := by decide +kernel
theorem dX8_image_15 : decode cX8_image 15 = .ok (.imul, 1) := by decide +kernel
theorem dX8_image_16 : decode cX8_image 16 = .ok (.istore_n 2, 1) := by decide +kernel
theorem dX8_image_17 : decode cX8_image 17 = .ok (.iconst 0, 1) := by decide +kernel
theorem dX8_image_18 : decode cX8_image 18 = .ok (.istore_n 3, 1) := by decide +kernel
theorem dX8_image_19 : decode cX8_image 19 = .ok (.iload_n 3, 1) := by decide +kernel
theorem dX8_image_20 : decode cX8_image 20 = .ok (.bipush 6, 2) := by decide +kernel
theorem dX8_image_22 : decode cX8_image 22 = .ok (.if_icmp .ge 57, 3) := by decide +kernel
theorem dX8_image_25 : decode cX8_image 25 = .ok (.aload_n 0, 1) := by decide +kernel
theorem dX8_image_26 : decode cX8_image 26 = .ok (.getfield 56, 3) := by decide +kernel
theorem dX8_image_29 : decode cX8_image 29 = .ok (.iload_n 2, 1) := by decide +kernel
theorem dX8_image_30 : decode cX8_image 30 = .ok (.iload_n 3, 1) := by decide +kernel
theorem dX8_image_31 : decode cX8_image 31 = .ok (.iadd, 1) := by decide +kernel
theorem dX8_image_32 : decode cX8_image 32 = .ok (.aload_n 0, 1) := by decide +kernel
theorem dX8_image_33 : decode cX8_image 33 = .ok (.getfield 13, 3) := by decide +kernel
theorem dX8_image_36 : decode cX8_image 36 = .ok (.iload_n 3, 1) := by decide +kernel
theorem dX8_image_37 : decode cX8_image 37 = .ok (.iaload, 1) := by decide +kernel
theorem dX8_image_38 : decode cX8_image 38 = .ok (.iastore, 1) := by decide +kernel
theorem dX8_image_39 : decode cX8_image 39 = .ok (.aload_n 0, 1) := by decide +kernel
theorem dX8_image_40 : decode cX8_image 40 = .ok (.getfield 56, 3) := by decide +kernel
theorem dX8_image_43 : decode cX8_image 43 = .ok (.iload_n 2, 1) := by decide +kernel
theorem dX8_image_44 : decode cX8_image 44 = .ok (.bipush 6, 2) := by decide +kernel
theorem dX8_image_46 : decode cX8_image 46 = .ok (.iadd, 1) := by decide +kernel
theorem dX8_image_47 : decode cX8_image 47 = .ok (.iload_n 3, 1) := by decide +kernel
theorem dX8_image_48 : decode cX8_image 48 = .ok (.iadd, 1) := by decide +kernel
theorem dX8_image_49 : decode cX8_image 49 = .ok (.aload_n 0, 1) := by decide +kernel
theorem dX8_image_50 : decode cX8_image 50 = .ok (.getfield 17, 3) := by decide +kernel
theorem dX8_image_53 : decode cX8_image 53 = .ok (.iload_n 3, 1) := by decide +kernel
theorem dX8_image_54 : decode cX8_image 54 = .ok (.iaload, 1) := by decide +kernel
theorem dX8_image_55 : decode cX8_image 55 = .ok (.iastore, 1) := by decide +kernel
theorem dX8_image_56 : decode cX8_image 56 = .ok (.aload_n 0, 1) := by decide +kernel
theorem dX8_image_57 : decode cX8_image 57 = .ok (.getfield 56, 3) := by decide +kernel
theorem dX8_image_60 : decode cX8_image 60 = .ok (.iload_n 2, 1) := by decide +kernel
theorem dX8_image_61 : decode cX8_image 61 = .ok (.bipush 12, 2) := by decide +kernel
theorem dX8_image_63 : decode cX8_image 63 = .ok (.iadd, 1) := by decide +kernel
theorem dX8_image_64 : decode cX8_image 64 = .ok (.iload_n 3, 1) := by decide +kernel
theorem dX8_image_65 : decode cX8_image 65 = .ok (.iadd, 1) := by decide +kernel
theorem dX8_image_66 : decode cX8_image 66 = .ok (.aload_n 0, 1) := by decide +kernel
theorem dX8_image_67 : decode cX8_image 67 = .ok (.getfield 20, 3) := by decide +kernel
theorem dX8_image_70 : decode cX8_image 70 = .ok (.iload_n 3, 1) := by decide +kernel
theorem dX8_image_71 : decode cX8_image 71 = .ok (.iaload, 1) := by decide +kernel
theorem dX8_image_72 : decode cX8_image 72 = .ok (.iastore, 1) := by decide +kernel
theorem dX8_image_73 : decode cX8_image 73 = .ok (.iinc 3 1, 3) := by decide +kernel
theorem dX8_image_76 : decode cX8_image 76 = .ok (.goto (-57), 3) := by decide +kernel
theorem dX8_image_79 : decode cX8_image 79 = .ok (.iconst 0, 1) := by decide +kernel
theorem dX8_image_80 : decode cX8_image 80 = .ok (.istore_n 3, 1) := by decide +kernel
theorem dX8_image_81 : decode cX8_image 81 = .ok (.iload_n 3, 1) := by decide +kernel
theorem dX8_image_82 : decode cX8_image 82 = .ok (.bipush 20, 2) := by decide +kernel
theorem dX8_image_84 : decode cX8_image 84 = .ok (.if_icmp .ge 26, 3) := by decide +kernel
theorem dX8_image_87 : decode cX8_image 87 = .ok (.aload_n 0, 1) := by decide +kernel
theorem dX8_image_88 : decode cX8_image 88 = .ok (.getfield 56, 3) := by decide +kernel
theorem dX8_image_91 : decode cX8_image 91 = .ok (.iload_n 2, 1) := by decide +kernel
theorem dX8_image_92 : decode cX8_image 92 = .ok (.bipush 18, 2) := by decide +kernel
theorem dX8_image_94 : decode cX8_image 94 = .ok (.iadd, 1) := by decide +kernel
theorem dX8_image_95 : decode cX8_image 95 = .ok (.iload_n 3, 1) := by decide +kernel
theorem dX8_image_96 : decode cX8_image 96 = .ok (.iadd, 1) := by decide +kernel
theorem dX8_image_97 : decode cX8_image 97 = .ok (.aload_n 0, 1) := by decide +kernel
theorem dX8_image_98 : decode cX8_image 98 = .ok (.getfield 29, 3) := by decide +kernel
theorem dX8_image_101 : decode cX8_image 101 = .ok (.iload_n 3, 1) := by decide +kernel
theorem dX8_image_102 : decode cX8_image 102 = .ok (.iaload, 1) := by decide +kernel
theorem dX8_image_103 : decode cX8_image 103 = .ok (.iastore, 1) := by decide +kernel
theorem dX8_image_104 : decode cX8_image 104 = .ok (.iinc 3 1, 3) := by decide +kernel
theorem dX8_image_107 : decode cX8_image 107 = .ok (.goto (-26), 3) := by decide +kernel
theorem dX8_image_110 : decode cX8_image 110 = .ok (.iconst 0, 1) := by decide +kernel
theorem dX8_image_111 : decode cX8_image 111 = .ok (.istore_n 3, 1) := by decide +kernel
theorem dX8_image_112 : decode cX8_image 112 = .ok (.iload_n 3, 1) := by decide +kernel
theorem dX8_image_113 : decode cX8_image 113 = .ok (.bipush 12, 2) := by decide +kernel
theorem dX8_image_115 : decode cX8_image 115 = .ok (.if_icmp .ge 26, 3) := by decide +kernel
theorem dX8_image_118 : decode cX8_image 118 = .ok (.aload_n 0, 1) := by decide +kernel
theorem dX8_image_119 : decode cX8_image 119 = .ok (.getfield 56, 3) := by decide +kernel
theorem dX8_image_122 : decode cX8_image 122 = .ok (.iload_n 2, 1) := by decide +kernel
theorem dX8_image_123 : decode cX8_image 123 = .ok (.bipush 38, 2) := by decide +kernel
theorem dX8_image_125 : decode cX8_image 125 = .ok (.iadd, 1) := by decide +kernel
theorem dX8_image_126 : decode cX8_image 126 = .ok (.iload_n 3, 1) := by decide +kernel
theorem dX8_image_127 : decode cX8_image 127 = .ok (.iadd, 1) := by decide +kernel
theorem dX8_image_128 : decode cX8_image 128 = .ok (.aload_n 0, 1) := by decide +kernel
theorem dX8_image_129 : decode cX8_image 129 = .ok (.getfield 32, 3) := by decide +kernel
theorem dX8_image_132 : decode cX8_image 132 = .ok (.iload_n 3, 1) := by decide +kernel
theorem dX8_image_133 : decode cX8_image 133 = .ok (.iaload, 1) := by decide +kernel
theorem dX8_image_134 : decode cX8_image 134 = .ok (.iastore, 1) := by decide +kernel
theorem dX8_image_135 : decode cX8_image 135 = .ok (.iinc 3 1, 3) := by decide +kernel
theorem dX8_image_138 : decode cX8_image 138 = .ok (.goto (-26), 3) := by decide +kernel
theorem dX8_image_141 : decode cX8_image 141 = .ok (.aload_n 0, 1) := by decide +kernel
theorem dX8_image_142 : decode cX8_image 142 = .ok (.getfield 56, 3) := by decide +kernel
theorem dX8_image_145 : decode cX8_image 145 = .ok (.iload_n 2, 1) := by decide +kernel
theorem dX8_image_146 : decode cX8_image 146 = .ok (.bipush 50, 2) := by decide +kernel
theorem dX8_image_148 : decode cX8_image 148 = .ok (.iadd, 1) := by decide +kernel
theorem dX8_image_149 : decode cX8_image 149 = .ok (.aload_n 0, 1) := by decide +kernel
theorem dX8_image_150 : decode cX8_image 150 = .ok (.getfield 7, 3) := by decide +kernel
theorem dX8_image_153 : decode cX8_image 153 = .ok (.iastore, 1) := by decide +kernel
theorem dX8_image_154 : decode cX8_image 154 = .ok (.aload_n 0, 1) := by decide +kernel
theorem dX8_image_155 : decode cX8_image 155 = .ok (.getfield 56, 3) := by decide +kernel
theorem dX8_image_158 : decode cX8_image 158 = .ok (.iload_n 2, 1) := by decide +kernel
theorem dX8_image_159 : decode cX8_image 159 = .ok (.bipush 51, 2) := by decide +kernel
theorem dX8_image_161 : decode cX8_image 161 = .ok (.iadd, 1) := by decide +kernel
theorem dX8_image_162 : decode cX8_image 162 = .ok (.aload_n 0, 1) := by decide +kernel
theorem dX8_image_163 : decode cX8_image 163 = .ok (.getfield 23, 3) := by decide +kernel
theorem dX8_image_166 : decode cX8_image 166 = .ok (.iastore, 1) := by decide +kernel
theorem dX8_image_167 : decode cX8_image 167 = .ok (.aload_n 0, 1) := by decide +kernel
theorem dX8_image_168 : decode cX8_image 168 = .ok (.getfield 56, 3) := by decide +kernel
theorem dX8_image_171 : decode cX8_image 171 = .ok (.iload_n 2, 1) := by decide +kernel
theorem dX8_image_172 : decode cX8_image 172 = .ok (.bipush 52, 2) := by decide +kernel
theorem dX8_image_174 : decode cX8_image 174 = .ok (.iadd, 1) := by decide +kernel
theorem dX8_image_175 : decode cX8_image 175 = .ok (.aload_n 0, 1) := by decide +kernel
theorem dX8_image_176 : decode cX8_image 176 = .ok (.getfield 26, 3) := by decide +kernel
theorem dX8_image_179 : decode cX8_image 179 = .ok (.iastore, 1) := by decide +kernel
theorem dX8_image_180 : decode cX8_image 180 = .ok (.aload_n 0, 1) := by decide +kernel
theorem dX8_image_181 : decode cX8_image 181 = .ok (.getfield 56, 3) := by decide +kernel
theorem dX8_image_184 : decode cX8_image 184 = .ok (.iload_n 2, 1) := by decide +kernel
theorem dX8_image_185 : decode cX8_image 185 = .ok (.bipush 53, 2) := by decide +kernel
theorem dX8_image_187 : decode cX8_image 187 = .ok (.iadd, 1) := by decide +kernel
theorem dX8_image_188 : decode cX8_image 188 = .ok (.aload_n 0, 1) := by decide +kernel
theorem dX8_image_189 : decode cX8_image 189 = .ok (.getfield 66, 3) := by decide +kernel
theorem dX8_image_192 : decode cX8_image 192 = .ok (.iastore, 1) := by decide +kernel
theorem dX8_image_193 : decode cX8_image 193 = .ok (.aload_n 0, 1) := by decide +kernel
theorem dX8_image_194 : decode cX8_image 194 = .ok (.getfield 59, 3) := by decide +kernel
theorem dX8_image_197 : decode cX8_image 197 = .ok (.iload_n 1, 1) := by decide +kernel
theorem dX8_image_198 : decode cX8_image 198 = .ok (.iconst 1, 1) := by decide +kernel
theorem dX8_image_199 : decode cX8_image 199 = .ok (.bastore, 1) := by decide +kernel
theorem dX8_image_200 : decode cX8_image 200 = .ok (.iconst 1, 1) := by decide +kernel
theorem dX8_image_201 : decode cX8_image 201 = .ok (.ireturn, 1) := by decide +kernel
set_option maxRecDepth 20000 in
theorem ggX8_restore_X8_in : GoodIn wsX8_restore wsX8_in := goodIn_r _ [15] (by decide +kernel) (by decide +kernel)
set_option maxRecDepth 20000 in
theorem gX8_restore_X8_in : GoodIn wsX8_restore (va_wsS RX8 69 yX8_in wsX8_in) := goodIn_app (goodIn_of _ (by decide +kernel)) ggX8_restore_X8_in
theorem dX8_restore_0 : decode cX8_restore 0 = .ok (.iload_n 1, 1) := by decide +kernel
theorem dX8_restore_1 : decode cX8_restore 1 = .ok (.iconst 0, 1) := by decide +kernel
theorem dX8_restore_2 : decode cX8_restore 2 = .ok (.iconst 1, 1) := by decide +kernel
theorem dX8_restore_3 : decode cX8_restore 3 = .ok (.invokestatic 69, 3) := by decide +kernel
theorem dX8_restore_6 : decode cX8_restore 6 = .ok (.ifCond .ne 6, 3) := by decide +kernel
theorem dX8_restore_9 : decode cX8_restore 9 = .ok (.bipush (-2), 2) := by decide +kernel
theorem dX8_restore_11 : decode cX8_restore 11 = .ok (.ireturn, 1) := by decide +kernel
theorem dX8_restore_12 : decode cX8_restore 12 = .ok (.aload_n 0, 1) := by decide +kernel
theorem dX8_restore_13 : decode cX8_restore 13 = .ok (.getfield 59, 3) := by decide +kernel
theorem dX8_restore_16 : decode cX8_restore 16 = .ok (.iload_n 1, 1) := by decide +kernel
theorem dX8_restore_17 : decode cX8_restore 17 = .ok (.baload, 1) := by decide +kernel
theorem dX8_restore_18 : decode cX8_restore 18 = .ok (.ifCond .ne 6, 3) := by decide +kernel
theorem dX8_restore_21 : decode cX8_restore 21 = .ok (.bipush (-3), 2) := by decide +kernel
theorem dX8_restore_23 : decode cX8_restore 23 = .ok (.ireturn, 1) := by decide +kernel
theorem dX8_restore_24 : decode cX8_restore 24 = .ok (.bipush 56, 2) := by decide +kernel
theorem dX8_restore_26 : decode cX8_restore 26 = .ok (.iload_n 1, 1) := by decide +kernel
theorem dX8_restore_27 : decode cX8_restore 27 = .ok (.imul, 1) := by decide +kernel
theorem dX8_restore_28 : decode cX8_restore 28 = .ok (.istore_n 2, 1) := by decide +kernel
theorem dX8_restore_29 : decode cX8_restore 29 = .ok (.iconst 0, 1) := by decide +kernel
theorem dX8_restore_30 : decode cX8_restore 30 = .ok (.istore_n 3, 1) := by decide +kernel
theorem dX8_restore_31 : decode cX8_restore 31 = .ok (.iload_n 3, 1) := by decide +kernel
theorem dX8_restore_32 : decode cX8_restore 32 = .ok (.bipush 6, 2) := by decide +kernel
theorem dX8_restore_34 : decode cX8_restore 34 = .ok (.if_icmp .ge 57, 3) := by decide +kernel
theorem dX8_restore_37 : decode cX8_restore 37 = .ok (.aload_n 0, 1) := by decide +kernel
theorem dX8_restore_38 : decode cX8_restore 38 = .ok (.getfield 13, 3) := by decide +kernel
theorem dX8_restore_41 : decode cX8_restore 41 = .ok (.iload_n 3, 1) := by decide +kernel
theorem dX8_restore_42 : decode cX8_restore 42 = .ok (.aload_n 0, 1) := by decide +kernel
theorem dX8_restore_43 : decode cX8_restore 43 = .ok (.getfield 56, 3) := by decide +kernel
theorem dX8_restore_46 : decode cX8_restore 46 = .ok (.iload_n 2, 1) := by decide +kernel
theorem dX8_restore_47 : decode cX8_restore 47 = .ok (.iload_n 3, 1) := by decide +kernel
theorem dX8_restore_48 : decode cX8_restore 48 = .ok (.iadd, 1) := by decide +kernel
theorem dX8_restore_49 : decode cX8_restore 49 = .ok (.iaload, 1) := by decide +kernel
theorem dX8_restore_50 : decode cX8_restore 50 = .ok (.iastore, 1) := by decide +kernel
theorem dX8_restore_51 : decode cX8_restore 51 = .ok (.aload_n 0, 1) := by decide +kernel
theorem dX8_restore_52 : decode cX8_restore 52 = .ok (.getfield 17, 3) := by decide +kernel
theorem dX8_restore_55 : decode cX8_restore 55 = .ok (.iload_n 3, 1) := by decide +kernel
theorem dX8_restore_56 : decode cX8_restore 56 = .ok (.aload_n 0, 1) := by decide +kernel
theorem dX8_restore_57 : decode cX8_restore 57 = .ok (.getfield 56, 3) := by decide +kernel
theorem dX8_restore_60 : decode cX8_restore 60 = .ok (.iload_n 2, 1) := by decide +kernel
theorem dX8_restore_61 : decode cX8_restore 61 = .ok (.bipush 6, 2) := by decide +kernel
theorem dX8_restore_63 : decode cX8_restore 63 = .ok (.iadd, 1) := by decide +kernel
theorem dX8_restore_64 : decode cX8_restore 64 = .ok (.iload_n 3, 1) := by decide +kernel
theorem dX8_restore_65 : decode cX8_restore 65 = .ok (.iadd, 1) := by decide +kernel
theorem dX8_restore_66 : decode cX8_restore 66 = .ok (.iaload, 1) := by decide +kernel
theorem dX8_restore_67 : decode cX8_restore 67 = .ok (.iastore, 1) := by decide +kernel
theorem dX8_restore_68 : decode cX8_restore 68 = .ok (.aload_n 0, 1) := by decide +kernel
theorem dX8_restore_69 : decode cX8_restore 69 = .ok (.getfield 20, 3) := by decide +kernel
theorem dX8_restore_72 : decode cX8_restore 72 = .ok (.iload_n 3, 1) := by decide +kernel
theorem dX8_restore_73 : decode cX8_restore 73 = .ok (.aload_n 0, 1) := by decide +kernel
theorem dX8_restore_74 : decode cX8_restore 74 = .ok (.getfield 56, 3) := by decide +kernel
theorem dX8_restore_77 : decode cX8_restore 77 = .ok (.iload_n 2, 1) := by decide +kernel
theorem dX8_restore_78 : decode cX8_restore 78 = .ok (.bipush 12, 2) := by decide +kernel
theorem dX8_restore_80 : decode cX8_restore 80 = .ok (.iadd, 1) := by decide +kernel
theorem dX8_restore_81 : decode cX8_restore 81 = .ok (.iload_n 3, 1) := by decide +kernel
theorem dX8_restore_82 : decode cX8_restore 82 = .ok (.iadd, 1) := by decide +kernel
theorem dX8_restore_83 : decode cX8_restore 83 = .ok (.iaload, 1) := by decide +kernel
theorem dX8_restore_84 : decode cX8_restore 84 = .ok (.iastore, 1) := by decide +kernel
theorem dX8_restore_85 : decode cX8_restore 85 = .ok (.iinc 3 1, 3) := by decide +kernel
theorem dX8_restore_88 : decode cX8_restore 88 = .ok (.goto (-57), 3) := by decide +kernel
theorem dX8_restore_91 : decode cX8_restore 91 = .ok (.iconst 0, 1) := by decide +kernel
theorem dX8_restore_92 : decode cX8_restore 92 = .ok (.istore_n 3, 1) := by decide +kernel
theorem dX8_restore_93 : decode cX8_restore 93 = .ok (.iload_n 3, 1) := by decide +kernel
theorem dX8_restore_94 : decode cX8_restore 94 = .ok (.bipush 20, 2) := by decide +kernel
theorem dX8_restore_96 : decode cX8_restore 96 = .ok (.if_icmp .ge 26, 3) := by decide +kernel
theorem dX8_restore_99 : decode cX8_restore 99 = .ok (.aload_n 0, 1) := by decide +kernel
theorem dX8_restore_100 : decode cX8_restore 100 = .ok (.getfield 29, 3) := by decide +kernel
theorem dX8_restore_103 : decode cX8_restore 103 = .ok (.iload_n 3, 1) := by decide +kernel
theorem dX8_restore_104 : decode cX8_restore 104 = .ok (.aload_n 0, 1) := by decide +kernel
theorem dX8_restore_105 : decode cX8_restore 105 = .ok (.getfield 56, 3) := by decide +kernel
theorem dX8_restore_108 : decode cX8_restore 108 = .ok (.iload_n 2, 1) := by decide +kernel
theorem dX8_restore_109 : decode cX8_restore 109 = .ok (.bipush 18, 2) := by decide +kernel
theorem dX8_restore_111 : decode cX8_restore 111 = .ok (.iadd, 1) := by decide +kernel
theorem dX8_restore_112 : decode cX8_restore 112 = .ok (.iload_n 3, 1) := by decide +kernel
theorem dX8_restore_113 : decode cX8_restore 113 = .ok (.iadd, 1) := by decide +kernel
theorem dX8_restore_114 : decode cX8_restore 114 = .ok (.iaload, 1) := by decide +kernel
theorem dX8_restore_115 : decode cX8_restore 115 = .ok (.iastore, 1) := by decide +kernel
theorem dX8_restore_116 : decode cX8_restore 116 = .ok (.iinc 3 1, 3) := by decide +kernel
theorem dX8_restore_119 : decode cX8_restore 119 = .ok (.goto (-26), 3) := by decide +kernel
theorem dX8_restore_122 : decode cX8_restore 122 = .ok (.iconst 0, 1) := by decide +kernel
theorem dX8_restore_123 : decode cX8_restore 123 = .ok (.istore_n 3, 1) := by decide +kernel
theorem dX8_restore_124 : decode cX8_restore 124 = .ok (.iload_n 3, 1) := by decide +kernel
theorem dX8_restore_125 : decode cX8_restore 125 = .ok (.bipush 12, 2) := by decide +kernel
theorem dX8_restore_127 : decode cX8_restore 127 = .ok (.if_icmp .ge 26, 3) := by decide +kernel
theorem dX8_restore_130 : decode cX8_restore 130 = .ok (.aload_n 0, 1) := by decide +kernel
theorem dX8_restore_131 : decode cX8_restore 131 = .ok (.getfield 32, 3) := by decide +kernel
theorem dX8_restore_134 : decode cX8_restore 134 = .ok (.iload_n 3, 1) := by decide +kernel
theorem dX8_restore_135 : decode cX8_restore 135 = .ok (.aload_n 0, 1) := by decide +kernel
theorem dX8_restore_136 : decode cX8_restore 136 = .ok (.getfield 56, 3) := by decide +kernel
theorem dX8_restore_139 : decode cX8_restore 139 = .ok (.iload_n 2, 1) := by decide +kernel
theorem dX8_restore_140 : decode cX8_restore 140 = .ok (.bipush 38, 2) := by decide +kernel
theorem dX8_restore_142 : decode cX8_restore 142 = .ok (.iadd, 1) := by decide +kernel
theorem dX8_restore_143 : decode cX8_restore 143 = .ok (.iload_n 3, 1) := by decide +kernel
theorem dX8_restore_144 : decode cX8_restore 144 = .ok (.iadd, 1) := by decide +kernel
theorem dX8_restore_145 : decode cX8_restore 145 = .ok (.iaload, 1) := by decide +kernel
theorem dX8_restore_146 : decode cX8_restore 146 = .ok (.iastore, 1) := by decide +kernel
theorem dX8_restore_147 : decode cX8_restore 147 = .ok (.iinc 3 1, 3) := by decide +kernel
theorem dX8_restore_150 : decode cX8_restore 150 = .ok (.goto (-26), 3) := by decide +kernel
theorem dX8_restore_153 : decode cX8_restore 153 = .ok (.aload_n 0, 1) := by decide +kernel
theorem dX8_restore_154 : decode cX8_restore 154 = .ok (.aload_n 0, 1) := by decide +kernel
theorem dX8_restore_155 : decode cX8_restore 155 = .ok (.getfield 56, 3) := by decide +kernel
theorem dX8_restore_158 : decode cX8_restore 158 = .ok (.iload_n 2, 1) := by decide +kernel
theorem dX8_restore_159 : decode cX8_restore 159 = .ok (.bipush 50, 2) := by decide +kernel
theorem dX8_restore_161 : decode cX8_restore 161 = .ok (.iadd, 1) := by decide +kernel
theorem dX8_restore_162 : decode cX8_restore 162 = .ok (.iaload, 1) := by decide +kernel
theorem dX8_restore_163 : decode cX8_restore 163 = .ok (.putfield 7, 3) := by decide +kernel
theorem dX8_restore_166 : decode cX8_restore 166 = .ok (.aload_n 0, 1) := by decide +kernel
theorem dX8_restore_167 : decode cX8_restore 167 = .ok (.aload_n 0, 1) := by decide +kernel
theorem dX8_restore_168 : decode cX8_restore 168 = .ok (.getfield 56, 3) := by decide +kernel
theorem dX8_restore_171 : decode cX8_restore 171 = .ok (.iload_n 2, 1) := by decide +kernel
theorem dX8_restore_172 : decode cX8_restore 172 = .ok (.bipush 51, 2) := by decide +kernel
theorem dX8_restore_174 : decode cX8_restore 174 = .ok (.iadd, 1) := by decide +kernel
theorem dX8_restore_175 : decode cX8_restore 175 = .ok (.iaload, 1) := by decide +kernel
theorem dX8_restore_176 : decode cX8_restore 176 = .ok (.putfield 23, 3) := by decide +kernel
theorem dX8_restore_179 : decode cX8_restore 179 = .ok (.aload_n 0, 1) := by decide +kernel
theorem dX8_restore_180 : decode cX8_restore 180 = .ok (.aload_n 0, 1) := by decide +kernel
theorem dX8_restore_181 : decode cX8_restore 181 = .ok (.getfield 56, 3) := by decide +kernel
theorem dX8_restore_184 : decode cX8_restore 184 = .ok (.iload_n 2, 1) := by decide +kernel
theorem dX8_restore_185 : decode cX8_restore 185 = .ok (.bipush 52, 2) := by decide +kernel
theorem dX8_restore_187 : decode cX8_restore 187 = .ok (.iadd, 1) := by decide +kernel
theorem dX8_restore_188 : decode cX8_restore 188 = .ok (.iaload, 1) := by decide +kernel
theorem dX8_restore_189 : decode cX8_restore 189 = .ok (.putfield 26, 3) := by decide +kernel
theorem dX8_restore_192 : decode cX8_restore 192 = .ok (.aload_n 0, 1) := by decide +kernel
theorem dX8_restore_193 : decode cX8_restore 193 = .ok (.aload_n 0, 1) := by decide +kernel
theorem dX8_restore_194 : decode cX8_restore 194 = .ok (.getfield 56, 3) := by decide +kernel
theorem dX8_restore_197 : decode cX8_restore 197 = .ok (.iload_n 2, 1) := by decide +kernel
theorem dX8_restore_198 : decode cX8_restore 198 = .ok (.bipush 53, 2) := by decide +kernel
theorem dX8_restore_200 : decode cX8_restore 200 = .ok (.iadd, 1) := by decide +kernel
theorem dX8_restore_201 : decode cX8_restore 201 = .ok (.iaload, 1) := by decide +kernel
theorem dX8_restore_202 : decode cX8_restore 202 = .ok (.putfield 66, 3) := by decide +kernel
theorem dX8_restore_205 : decode cX8_restore 205 = .ok (.iconst 1, 1) := by decide +kernel
theorem dX8_restore_206 : decode cX8_restore 206 = .ok (.ireturn, 1) := by decide +kernel
set_option maxRecDepth 20000 in
theorem ggX8_told_X8_in : GoodIn wsX8_told wsX8_in := goodIn_r _ [13] (by decide +kernel) (by decide +kernel)
set_option maxRecDepth 20000 in
theorem gX8_told_X8_in : GoodIn wsX8_told (va_wsS RX8 69 yX8_in wsX8_in) := goodIn_app (goodIn_of _ (by decide +kernel)) ggX8_told_X8_in
set_option maxRecDepth 20000 in
theorem ggX8_told_X8_isMember : GoodIn wsX8_told wsX8_isMember := goodIn_r _ [17, 7, 10, 11, 12, 13, 18, 19, 20, 21, 22, 23, 24, 25, 26, 27, 28, 29, 30, 31, 32, 33, 34, 35, 36, 37, 38, 39, 40] (by decide +kernel) (by decide +kernel)
set_option maxRecDepth 20000 in
theorem gX8_told_X8_isMember : GoodIn wsX8_told (wsV RX8 73 RX8 yX8_isMember wsX8_isMember) := goodIn_app (goodIn_of _ (by decide +kernel)) ggX8_told_X8_isMember
theorem dX8_told_0 : decode cX8_told 0 = .ok (.iload_n 1, 1) := by decide +kernel
theorem dX8_told_1 : decode cX8_told 1 = .ok (.bipush 10, 2) := by decide +kernel
theorem dX8_told_3 : decode cX8_told 3 = .ok (.irem, 1) := by decide +kernel
theorem dX8_told_4 : decode cX8_told 4 = .ok (.istore_n 2, 1) := by decide +kernel
theorem dX8_told_5 : decode cX8_told 5 = .ok (.iload_n 1, 1) := by decide +kernel
theorem dX8_told_6 : decode cX8_told 6 = .ok (.bipush 10, 2) := by decide +kernel
theorem dX8_told_8 : decode cX8_told 8 = .ok (.bipush 39, 2) := by decide +kernel
theorem dX8_told_10 : decode cX8_told 10 = .ok (.invokestatic 69, 3) := by decide +kernel
theorem dX8_told_13 : decode cX8_told 13 = .ok (.ifCond .eq 53, 3) := by decide +kernel
theorem dX8_told_16 : decode cX8_told 16 = .ok (.aload_n 0, 1) := by decide +kernel
theorem dX8_told_17 : decode cX8_told 17 = .ok (.iload_n 2, 1) := by decide +kernel
theorem dX8_told_18 : decode cX8_told 18 = .ok (.invokevirtual 73, 3) := by decide +kernel
theorem dX8_told_21 : decode cX8_told 21 = .ok (.ifCond .ne 8, 3) := by decide +kernel
theorem dX8_told_24 : decode cX8_told 24 = .ok (.bipush (-2), 2) := by decide +kernel
theorem dX8_told_26 : decode cX8_told 26 = .ok (.goto 39, 3) := by decide +kernel
theorem dX8_told_29 : decode cX8_told 29 = .ok (.iload_n 1, 1) := by decide +kernel
theorem dX8_told_30 : decode cX8_told 30 = .ok (.bipush 20, 2) := by decide +kernel
theorem dX8_told_32 : decode cX8_told 32 = .ok (.if_icmp .ge 12, 3) := by decide +kernel
theorem dX8_told_35 : decode cX8_told 35 = .ok (.aload_n 0, 1) := by decide +kernel
theorem dX8_told_36 : decode cX8_told 36 = .ok (.getfield 13, 3) := by decide +kernel
theorem dX8_told_39 : decode cX8_told 39 = .ok (.iload_n 2, 1) := by decide +kernel
theorem dX8_told_40 : decode cX8_told 40 = .ok (.iaload, 1) := by decide +kernel
theorem dX8_told_41 : decode cX8_told 41 = .ok (.goto 24, 3) := by decide +kernel
theorem dX8_told_44 : decode cX8_told 44 = .ok (.iload_n 1, 1) := by decide +kernel
theorem dX8_told_45 : decode cX8_told 45 = .ok (.bipush 30, 2) := by decide +kernel
theorem dX8_told_47 : decode cX8_told 47 = .ok (.if_icmp .ge 12, 3) := by decide +kernel
theorem dX8_told_50 : decode cX8_told 50 = .ok (.aload_n 0, 1) := by decide +kernel
theorem dX8_told_51 : decode cX8_told 51 = .ok (.getfield 17, 3) := by decide +kernel
theorem dX8_told_54 : decode cX8_told 54 = .ok (.iload_n 2, 1) := by decide +kernel
theorem dX8_told_55 : decode cX8_told 55 = .ok (.iaload, 1) := by decide +kernel
theorem dX8_told_56 : decode cX8_told 56 = .ok (.goto 9, 3) := by decide +kernel
theorem dX8_told_59 : decode cX8_told 59 = .ok (.aload_n 0, 1) := by decide +kernel
theorem dX8_told_60 : decode cX8_told 60 = .ok (.getfield 20, 3) := by decide +kernel
theorem dX8_told_63 : decode cX8_told 63 = .ok (.iload_n 2, 1) := by decide +kernel
theorem dX8_told_64 : decode cX8_told 64 = .ok (.iaload, 1) := by decide +kernel
theorem dX8_told_65 : decode cX8_told 65 = .ok (.ireturn, 1) := by decide +kernel
theorem dX8_told_66 : decode cX8_told 66 = .ok (.iload_n 1, 1) := by decide +kernel
theorem dX8_told_67 : decode cX8_told 67 = .ok (.bipush 40, 2) := by decide +kernel
theorem dX8_told_69 : decode cX8_told 69 = .ok (.if_icmp .lt 35, 3) := by decide +kernel
theorem dX8_told_72 : decode cX8_told 72 = .ok (.iload_n 1, 1) := by decide +kernel
theorem dX8_told_73 : decode cX8_told 73 = .ok (.bipush 40, 2) := by decide +kernel
theorem dX8_told_75 : decode cX8_told 75 = .ok (.isub, 1) := by decide +kernel
theorem dX8_told_76 : decode cX8_told 76 = .ok (.iconst 0, 1) := by decide +kernel
theorem dX8_told_77 : decode cX8_told 77 = .ok (.aload_n 0, 1) := by decide +kernel
theorem dX8_told_78 : decode cX8_told 78 = .ok (.getfield 26, 3) := by decide +kernel
theorem dX8_told_81 : decode cX8_told 81 = .ok (.iconst 1, 1) := by decide +kernel
theorem dX8_told_82 : decode cX8_told 82 = .ok (.isub, 1) := by decide +kernel
theorem dX8_told_83 : decode cX8_told 83 = .ok (.invokestatic 69, 3) := by decide +kernel
theorem dX8_told_86 : decode cX8_told 86 = .ok (.ifCond .eq 15, 3) := by decide +kernel
theorem dX8_told_89 : decode cX8_told 89 = .ok (.aload_n 0, 1) := by decide +kernel
theorem dX8_told_90 : decode cX8_told 90 = .ok (.getfield 29, 3) := by decide +kernel
theorem dX8_told_93 : decode cX8_told 93 = .ok (.iload_n 1, 1) := by decide +kernel
theorem dX8_told_94 : decode cX8_told 94 = .ok (.bipush 40, 2) := by decide +kernel
theorem dX8_told_96 : decode cX8_told 96 = .ok (.isub, 1) := by decide +kernel
theorem dX8_told_97 : decode cX8_told 97 = .ok (.iaload, 1) := by decide +kernel
theorem dX8_told_98 : decode cX8_told 98 = .ok (.goto 5, 3) := by decide +kernel
theorem dX8_told_101 : decode cX8_told 101 = .ok (.bipush (-2), 2) := by decide +kernel
theorem dX8_told_103 : decode cX8_told 103 = .ok (.ireturn, 1) := by decide +kernel
theorem dX8_told_104 : decode cX8_told 104 = .ok (.iload_n 1, 1) := by decide +kernel
theorem dX8_told_105 : decode cX8_told 105 = .ok (.tableswitch 51 0 3 #[31, 36, 41, 46], 31) := by decide +kernel
theorem dX8_told_136 : decode cX8_told 136 = .ok (.aload_n 0, 1) := by decide +kernel
theorem dX8_told_137 : decode cX8_told 137 = .ok (.getfield 77, 3) := by decide +kernel
theorem dX8_told_140 : decode cX8_told 140 = .ok (.ireturn, 1) := by decide +kernel
theorem dX8_told_141 : decode cX8_told 141 = .ok (.aload_n 0, 1) := by decide +kernel
theorem dX8_told_142 : decode cX8_told 142 = .ok (.getfield 7, 3) := by decide +kernel
theorem dX8_told_145 : decode cX8_told 145 = .ok (.ireturn, 1) := by decide +kernel
theorem dX8_told_146 : decode cX8_told 146 = .ok (.aload_n 0, 1) := by decide +kernel
theorem dX8_told_147 : decode cX8_told 147 = .ok (.getfield 23, 3) := by decide +kernel
theorem dX8_told_150 : decode cX8_told 150 = .ok (.ireturn, 1) := by decide +kernel
theorem dX8_told_151 : decode cX8_told 151 = .ok (.aload_n 0, 1) := by decide +kernel
theorem dX8_told_152 : decode cX8_told 152 = .ok (.getfield 26, 3) := by decide +kernel
theorem dX8_told_155 : decode cX8_told 155 = .ok (.ireturn, 1) := by decide +kernel
theorem dX8_told_156 : decode cX8_told 156 = .ok (.iload_n 1, 1) := by decide +kernel
theorem dX8_told_157 : decode cX8_told 157 = .ok (.iconst 4, 1) := by decide +kernel
theorem dX8_told_158 : decode cX8_told 158 = .ok (.if_icmp .ne 10, 3) := by decide +kernel
theorem dX8_told_161 : decode cX8_told 161 = .ok (.aload_n 0, 1) := by decide +kernel
theorem dX8_told_162 : decode cX8_told 162 = .ok (.getfield 66, 3) := by decide +kernel
theorem dX8_told_165 : decode cX8_told 165 = .ok (.goto 5, 3) := by decide +kernel
theorem dX8_told_168 : decode cX8_told 168 = .ok (.bipush (-2), 2) := by decide +kernel
theorem dX8_told_170 : decode cX8_told 170 = .ok (.ireturn, 1) := by decide +kernel
theorem dJ6_bitCount_0f7a4_0 : decode cJ6_bitCount_0f7a4 0 = .ok (.iload_n 0, 1) := by decide +kernel
theorem dJ6_bitCount_0f7a4_1 : decode cJ6_bitCount_0f7a4 1 = .ok (.iload_n 0, 1) := by decide +kernel
theorem dJ6_bitCount_0f7a4_2 : decode cJ6_bitCount_0f7a4 2 = .ok (.iconst 1, 1) := by decide +kernel
theorem dJ6_bitCount_0f7a4_3 : decode cJ6_bitCount_0f7a4 3 = .ok (.iushr, 1) := by decide +kernel
theorem dJ6_bitCount_0f7a4_4 : decode cJ6_bitCount_0f7a4 4 = .ok (.ldc_w 265, 3) := by decide +kernel
theorem dJ6_bitCount_0f7a4_7 : decode cJ6_bitCount_0f7a4 7 = .ok (.iand, 1) := by decide +kernel
theorem dJ6_bitCount_0f7a4_8 : decode cJ6_bitCount_0f7a4 8 = .ok (.isub, 1) := by decide +kernel
theorem dJ6_bitCount_0f7a4_9 : decode cJ6_bitCount_0f7a4 9 = .ok (.istore_n 0, 1) := by decide +kernel
theorem dJ6_bitCount_0f7a4_10 : decode cJ6_bitCount_0f7a4 10 = .ok (.iload_n 0, 1) := by decide +kernel
theorem dJ6_bitCount_0f7a4_11 : decode cJ6_bitCount_0f7a4 11 = .ok (.ldc_w 266, 3) := by decide +kernel
theorem dJ6_bitCount_0f7a4_14 : decode cJ6_bitCount_0f7a4 14 = .ok (.iand, 1) := by decide +kernel
theorem dJ6_bitCount_0f7a4_15 : decode cJ6_bitCount_0f7a4 15 = .ok (.iload_n 0, 1) := by decide +kernel
theorem dJ6_bitCount_0f7a4_16 : decode cJ6_bitCount_0f7a4 16 = .ok (.iconst 2, 1) := by decide +kernel
theorem dJ6_bitCount_0f7a4_17 : decode cJ6_bitCount_0f7a4 17 = .ok (.iushr, 1) := by decide +kernel
theorem dJ6_bitCount_0f7a4_18 : decode cJ6_bitCount_0f7a4 18 = .ok (.ldc_w 266, 3) := by decide +kernel
theorem dJ6_bitCount_0f7a4_21 : decode cJ6_bitCount_0f7a4 21 = .ok (.iand, 1) := by decide +kernel
theorem dJ6_bitCount_0f7a4_22 : decode cJ6_bitCount_0f7a4 22 = .ok (.iadd, 1) := by decide +kernel
theorem dJ6_bitCount_0f7a4_23 : decode cJ6_bitCount_0f7a4 23 = .ok (.istore_n 0, 1) := by decide +kernel
theorem dJ6_bitCount_0f7a4_24 : decode cJ6_bitCount_0f7a4 24 = .ok (.iload_n 0, 1) := by decide +kernel
theorem dJ6_bitCount_0f7a4_25 : decode cJ6_bitCount_0f7a4 25 = .ok (.iload_n 0, 1) := by decide +kernel
theorem dJ6_bitCount_0f7a4_26 : decode cJ6_bitCount_0f7a4 26 = .ok (.iconst 4, 1) := by decide +kernel
theorem dJ6_bitCount_0f7a4_27 : decode cJ6_bitCount_0f7a4 27 = .ok (.iushr, 1) := by decide +kernel
theorem dJ6_bitCount_0f7a4_28 : decode cJ6_bitCount_0f7a4 28 = .ok (.iadd, 1) := by decide +kernel
theorem dJ6_bitCount_0f7a4_29 : decode cJ6_bitCount_0f7a4 29 = .ok (.ldc_w 267, 3) := by decide +kernel
theorem dJ6_bitCount_0f7a4_32 : decode cJ6_bitCount_0f7a4 32 = .ok (.iand, 1) := by decide +kernel
theorem dJ6_bitCount_0f7a4_33 : decode cJ6_bitCount_0f7a4 33 = .ok (.istore_n 0, 1) := by decide +kernel
theorem dJ6_bitCount_0f7a4_34 : decode cJ6_bitCount_0f7a4 34 = .ok (.iload_n 0, 1) := by decide +kernel
theorem dJ6_bitCount_0f7a4_35 : decode cJ6_bitCount_0f7a4 35 = .ok (.iload_n 0, 1) := by decide +kernel
theorem dJ6_bitCount_0f7a4_36 : decode cJ6_bitCount_0f7a4 36 = .ok (.bipush 8, 2) := by decide +kernel
theorem dJ6_bitCount_0f7a4_38 : decode cJ6_bitCount_0f7a4 38 = .ok (.iushr, 1) := by decide +kernel
theorem dJ6_bitCount_0f7a4_39 : decode cJ6_bitCount_0f7a4 39 = .ok (.iadd, 1) := by decide +kernel
theorem dJ6_bitCount_0f7a4_40 : decode cJ6_bitCount_0f7a4 40 = .ok (.istore_n 0, 1) := by decide +kernel
theorem dJ6_bitCount_0f7a4_41 : decode cJ6_bitCount_0f7a4 41 = .ok (.iload_n 0, 1) := by decide +kernel
theorem dJ6_bitCount_0f7a4_42 : decode cJ6_bitCount_0f7a4 42 = .ok (.iload_n 0, 1) := by decide +kernel
theorem dJ6_bitCount_0f7a4_43 : decode cJ6_bitCount_0f7a4 43 = .ok (.bipush 16, 2) := by decide +kernel
theorem dJ6_bitCount_0f7a4_45 : decode cJ6_bitCount_0f7a4 45 = .ok (.iushr, 1) := by decide +kernel
theorem dJ6_bitCount_0f7a4_46 : decode cJ6_bitCount_0f7a4 46 = .ok (.iadd, 1) := by decide +kernel
theorem dJ6_bitCount_0f7a4_47 : decode cJ6_bitCount_0f7a4 47 = .ok (.istore_n 0, 1) := by decide +kernel
theorem dJ6_bitCount_0f7a4_48 : decode cJ6_bitCount_0f7a4 48 = .ok (.iload_n 0, 1) := by decide +kernel
theorem dJ6_bitCount_0f7a4_49 : decode cJ6_bitCount_0f7a4 49 = .ok (.bipush 63, 2) := by decide +kernel
theorem dJ6_bitCount_0f7a4_51 : decode cJ6_bitCount_0f7a4 51 = .ok (.iand, 1) := by decide +kernel
theorem dJ6_bitCount_0f7a4_52 : decode cJ6_bitCount_0f7a4 52 = .ok (.ireturn, 1) := by decide +kernel
theorem dJ9_abs_0f7a4_0 : decode cJ9_abs_0f7a4 0 = .ok (.iload_n 0, 1) := by decide +kernel
theorem dJ9_abs_0f7a4_1 : decode cJ9_abs_0f7a4 1 = .ok (.ifCond .ge 8, 3) := by decide +kernel
theorem dJ9_abs_0f7a4_4 : decode cJ9_abs_0f7a4 4 = .ok (.iload_n 0, 1) := by decide +kernel
theorem dJ9_abs_0f7a4_5 : decode cJ9_abs_0f7a4 5 = .ok (.ineg, 1) := by decide +kernel
theorem dJ9_abs_0f7a4_6 : decode cJ9_abs_0f7a4 6 = .ok (.goto 4, 3) := by decide +kernel
theorem dJ9_abs_0f7a4_9 : decode cJ9_abs_0f7a4 9 = .ok (.iload_n 0, 1) := by decide +kernel
theorem dJ9_abs_0f7a4_10 : decode cJ9_abs_0f7a4 10 = .ok (.ireturn, 1) := by decide +kernel
theorem dJ9_max_7cf53_0 : decode cJ9_max_7cf53 0 = .ok (.iload_n 0, 1) := by decide +kernel
theorem dJ9_max_7cf53_1 : decode cJ9_max_7cf53 1 = .ok (.iload_n 1, 1) := by decide +kernel
theorem dJ9_max_7cf53_2 : decode cJ9_max_7cf53 2 = .ok (.if_icmp .lt 7, 3) := by decide +kernel
theorem dJ9_max_7cf53_5 : decode cJ9_max_7cf53 5 = .ok (.iload_n 0, 1) := by decide +kernel
theorem dJ9_max_7cf53_6 : decode cJ9_max_7cf53 6 = .ok (.goto 4, 3) := by decide +kernel
theorem dJ9_max_7cf53_9 : decode cJ9_max_7cf53 9 = .ok (.iload_n 1, 1) := by decide +kernel
theorem dJ9_max_7cf53_10 : decode cJ9_max_7cf53 10 = .ok (.ireturn, 1) := by decide +kernel
theorem dJ9_min_7cf53_0 : decode cJ9_min_7cf53 0 = .ok (.iload_n 0, 1) := by decide +kernel
theorem dJ9_min_7cf53_1 : decode cJ9_min_7cf53 1 = .ok (.iload_n 1, 1) := by decide +kernel
theorem dJ9_min_7cf53_2 : decode cJ9_min_7cf53 2 = .ok (.if_icmp .gt 7, 3) := by decide +kernel
theorem dJ9_min_7cf53_5 : decode cJ9_min_7cf53 5 = .ok (.iload_n 0, 1) := by decide +kernel
theorem dJ9_min_7cf53_6 : decode cJ9_min_7cf53 6 = .ok (.goto 4, 3) := by decide +kernel
theorem dJ9_min_7cf53_9 : decode cJ9_min_7cf53 9 = .ok (.iload_n 1, 1) := by decide +kernel
theorem dJ9_min_7cf53_10 : decode cJ9_min_7cf53 10 = .ok (.ireturn, 1) := by decide +kernel
theorem dJ7_fill_d0a16_0 : decode cJ7_fill_d0a16 0 = .ok (.iconst 0, 1) := by decide +kernel
theorem dJ7_fill_d0a16_1 : decode cJ7_fill_d0a16 1 = .ok (.istore_n 3, 1) := by decide +kernel
theorem dJ7_fill_d0a16_2 : decode cJ7_fill_d0a16 2 = .ok (.aload_n 0, 1) := by decide +kernel
theorem dJ7_fill_d0a16_3 : decode cJ7_fill_d0a16 3 = .ok (.arraylength, 1) := by decide +kernel
theorem dJ7_fill_d0a16_4 : decode cJ7_fill_d0a16 4 = .ok (.istore 4, 2) := by decide +kernel
theorem dJ7_fill_d0a16_6 : decode cJ7_fill_d0a16 6 = .ok (.iload_n 3, 1) := by decide +kernel
theorem dJ7_fill_d0a16_7 : decode cJ7_fill_d0a16 7 = .ok (.iload 4, 2) := by decide +kernel
theorem dJ7_fill_d0a16_9 : decode cJ7_fill_d0a16 9 = .ok (.if_icmp .ge 13, 3) := by decide +kernel
theorem dJ7_fill_d0a16_12 : decode cJ7_fill_d0a16 12 = .ok (.aload_n 0, 1) := by decide +kernel
theorem dJ7_fill_d0a16_13 : decode cJ7_fill_d0a16 13 = .ok (.iload_n 3, 1) := by decide +kernel
theorem dJ7_fill_d0a16_14 : decode cJ7_fill_d0a16 14 = .ok (.lload_n 1, 1) := by decide +kernel
theorem dJ7_fill_d0a16_15 : decode cJ7_fill_d0a16 15 = .ok (.lastore, 1) := by decide +kernel
theorem dJ7_fill_d0a16_16 : decode cJ7_fill_d0a16 16 = .ok (.iinc 3 1, 3) := by decide +kernel
theorem dJ7_fill_d0a16_19 : decode cJ7_fill_d0a16 19 = .ok (.goto (-13), 3) := by decide +kernel
theorem dJ7_fill_d0a16_22 : decode cJ7_fill_d0a16 22 = .ok (.return_, 1) := by decide +kernel
theorem dJ7_fill_53178_0 : decode cJ7_fill_53178 0 = .ok (.iconst 0, 1) := by decide +kernel
theorem dJ7_fill_53178_1 : decode cJ7_fill_53178 1 = .ok (.istore_n 2, 1) := by decide +kernel
theorem dJ7_fill_53178_2 : decode cJ7_fill_53178 2 = .ok (.aload_n 0, 1) := by decide +kernel
theorem dJ7_fill_53178_3 : decode cJ7_fill_53178 3 = .ok (.arraylength, 1) := by decide +kernel
theorem dJ7_fill_53178_4 : decode cJ7_fill_53178 4 = .ok (.istore_n 3, 1) := by decide +kernel
theorem dJ7_fill_53178_5 : decode cJ7_fill_53178 5 = .ok (.iload_n 2, 1) := by decide +kernel
theorem dJ7_fill_53178_6 : decode cJ7_fill_53178 6 = .ok (.iload_n 3, 1) := by decide +kernel
theorem dJ7_fill_53178_7 : decode cJ7_fill_53178 7 = .ok (.if_icmp .ge 13, 3) := by decide +kernel
theorem dJ7_fill_53178_10 : decode cJ7_fill_53178 10 = .ok (.aload_n 0, 1) := by decide +kernel
theorem dJ7_fill_53178_11 : decode cJ7_fill_53178 11 = .ok (.iload_n 2, 1) := by decide +kernel
theorem dJ7_fill_53178_12 : decode cJ7_fill_53178 12 = .ok (.iload_n 1, 1) := by decide +kernel
theorem dJ7_fill_53178_13 : decode cJ7_fill_53178 13 = .ok (.iastore, 1) := by decide +kernel
theorem dJ7_fill_53178_14 : decode cJ7_fill_53178 14 = .ok (.iinc 2 1, 3) := by decide +kernel
theorem dJ7_fill_53178_17 : decode cJ7_fill_53178 17 = .ok (.goto (-12), 3) := by decide +kernel
theorem dJ7_fill_53178_20 : decode cJ7_fill_53178 20 = .ok (.return_, 1) := by decide +kernel
abbrev vwCl : List vw_C := [(RX0, TX0, 5), (RX1, TX1, 8), (RX2, TX2, 4), (RX3, TX3, 9), (RX4, TX4, 2), (RX5, TX5, 2), (RX6, TX6, 6), (RX7, TX7, 7), (RX8, TX8, 23)]
