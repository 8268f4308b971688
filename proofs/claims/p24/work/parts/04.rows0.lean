theorem dX0_init_0 : decode cX0_init 0 = .ok (.aload_n 0, 1) := by decide +kernel
theorem dX0_init_1 : decode cX0_init 1 = .ok (.invokespecial 3, 3) := by decide +kernel
theorem dX0_init_4 : decode cX0_init 4 = .ok (.aload_n 0, 1) := by decide +kernel
theorem dX0_init_5 : decode cX0_init 5 = .ok (.iload_n 1, 1) := by decide +kernel
theorem dX0_init_6 : decode cX0_init 6 = .ok (.putfield 9, 3) := by decide +kernel
theorem dX0_init_9 : decode cX0_init 9 = .ok (.aload_n 0, 1) := by decide +kernel
theorem dX0_init_10 : decode cX0_init 10 = .ok (.iload_n 2, 1) := by decide +kernel
theorem dX0_init_11 : decode cX0_init 11 = .ok (.putfield 15, 3) := by decide +kernel
theorem dX0_init_14 : decode cX0_init 14 = .ok (.aload_n 0, 1) := by decide +kernel
theorem dX0_init_15 : decode cX0_init 15 = .ok (.iload_n 3, 1) := by decide +kernel
theorem dX0_init_16 : decode cX0_init 16 = .ok (.putfield 18, 3) := by decide +kernel
theorem dX0_init_19 : decode cX0_init 19 = .ok (.aload_n 0, 1) := by decide +kernel
theorem dX0_init_20 : decode cX0_init 20 = .ok (.iload 4, 2) := by decide +kernel
theorem dX0_init_22 : decode cX0_init 22 = .ok (.putfield 21, 3) := by decide +kernel
theorem dX0_init_25 : decode cX0_init 25 = .ok (.aload_n 0, 1) := by decide +kernel
theorem dX0_init_26 : decode cX0_init 26 = .ok (.iconst (-1), 1) := by decide +kernel
theorem dX0_init_27 : decode cX0_init 27 = .ok (.putfield 24, 3) := by decide +kernel
theorem dX0_init_30 : decode cX0_init 30 = .ok (.return_, 1) := by decide +kernel
theorem dX0_hasForfeitDay_0 : decode cX0_hasForfeitDay 0 = .ok (.aload_n 0, 1) := by decide +kernel
theorem dX0_hasForfeitDay_1 : decode cX0_hasForfeitDay 1 = .ok (.getfield 24, 3) := by decide +kernel
theorem dX0_hasForfeitDay_4 : decode cX0_hasForfeitDay 4 = .ok (.iconst (-1), 1) := by decide +kernel
theorem dX0_hasForfeitDay_5 : decode cX0_hasForfeitDay 5 = .ok (.if_icmp .eq 7, 3) := by decide +kernel
theorem dX0_hasForfeitDay_8 : decode cX0_hasForfeitDay 8 = .ok (.iconst 1, 1) := by decide +kernel
theorem dX0_hasForfeitDay_9 : decode cX0_hasForfeitDay 9 = .ok (.goto 4, 3) := by decide +kernel
theorem dX0_hasForfeitDay_12 : decode cX0_hasForfeitDay 12 = .ok (.iconst 0, 1) := by decide +kernel
theorem dX0_hasForfeitDay_13 : decode cX0_hasForfeitDay 13 = .ok (.ireturn, 1) := by decide +kernel
set_option maxRecDepth 20000 in
theorem ggX0_isOverdue_X0_hasForfeitDay : GoodIn wsX0_isOverdue wsX0_hasForfeitDay := goodIn_r _ [6, 1, 7, 8, 9, 10, 11] (by decide +kernel) (by decide +kernel)
set_option maxRecDepth 20000 in
theorem gX0_isOverdue_X0_hasForfeitDay : GoodIn wsX0_isOverdue (wsV RX0 27 RX0 yX0_hasForfeitDay wsX0_hasForfeitDay) := goodIn_app (goodIn_of _ (by decide +kernel)) ggX0_isOverdue_X0_hasForfeitDay
theorem dX0_isOverdue_0 : decode cX0_isOverdue 0 = .ok (.aload_n 0, 1) := by decide +kernel
theorem dX0_isOverdue_1 : decode cX0_isOverdue 1 = .ok (.invokevirtual 27, 3) := by decide +kernel
theorem dX0_isOverdue_4 : decode cX0_isOverdue 4 = .ok (.ifCond .eq 18, 3) := by decide +kernel
theorem dX0_isOverdue_7 : decode cX0_isOverdue 7 = .ok (.iload_n 1, 1) := by decide +kernel
theorem dX0_isOverdue_8 : decode cX0_isOverdue 8 = .ok (.aload_n 0, 1) := by decide +kernel
theorem dX0_isOverdue_9 : decode cX0_isOverdue 9 = .ok (.getfield 24, 3) := by decide +kernel
theorem dX0_isOverdue_12 : decode cX0_isOverdue 12 = .ok (.bipush 14, 2) := by decide +kernel
theorem dX0_isOverdue_14 : decode cX0_isOverdue 14 = .ok (.iadd, 1) := by decide +kernel
theorem dX0_isOverdue_15 : decode cX0_isOverdue 15 = .ok (.if_icmp .le 7, 3) := by decide +kernel
theorem dX0_isOverdue_18 : decode cX0_isOverdue 18 = .ok (.iconst 1, 1) := by decide +kernel
theorem dX0_isOverdue_19 : decode cX0_isOverdue 19 = .ok (.goto 4, 3) := by decide +kernel
theorem dX0_isOverdue_22 : decode cX0_isOverdue 22 = .ok (.iconst 0, 1) := by decide +kernel
theorem dX0_isOverdue_23 : decode cX0_isOverdue 23 = .ok (.ireturn, 1) := by decide +kernel
set_option maxRecDepth 20000 in
theorem ggX0_isUnder_X0_hasForfeitDay : GoodIn wsX0_isUnder wsX0_hasForfeitDay := goodIn_r _ [7, 8, 9, 10, 11, 12, 13] (by decide +kernel) (by decide +kernel)
set_option maxRecDepth 20000 in
theorem gX0_isUnder_X0_hasForfeitDay : GoodIn wsX0_isUnder (wsV RX0 27 RX0 yX0_hasForfeitDay wsX0_hasForfeitDay) := goodIn_app (goodIn_of _ (by decide +kernel)) ggX0_isUnder_X0_hasForfeitDay
theorem dX0_isUnder_0 : decode cX0_isUnder 0 = .ok (.aload_n 0, 1) := by decide +kernel
theorem dX0_isUnder_1 : decode cX0_isUnder 1 = .ok (.invokevirtual 27, 3) := by decide +kernel
theorem dX0_isUnder_4 : decode cX0_isUnder 4 = .ok (.ifCond .ne 23, 3) := by decide +kernel
theorem dX0_isUnder_7 : decode cX0_isUnder 7 = .ok (.aload_n 0, 1) := by decide +kernel
theorem dX0_isUnder_8 : decode cX0_isUnder 8 = .ok (.getfield 15, 3) := by decide +kernel
theorem dX0_isUnder_11 : decode cX0_isUnder 11 = .ok (.iload_n 1, 1) := by decide +kernel
theorem dX0_isUnder_12 : decode cX0_isUnder 12 = .ok (.if_icmp .gt 15, 3) := by decide +kernel
theorem dX0_isUnder_15 : decode cX0_isUnder 15 = .ok (.aload_n 0, 1) := by decide +kernel
theorem dX0_isUnder_16 : decode cX0_isUnder 16 = .ok (.getfield 21, 3) := by decide +kernel
theorem dX0_isUnder_19 : decode cX0_isUnder 19 = .ok (.iload_n 2, 1) := by decide +kernel
theorem dX0_isUnder_20 : decode cX0_isUnder 20 = .ok (.if_icmp .gt 7, 3) := by decide +kernel
theorem dX0_isUnder_23 : decode cX0_isUnder 23 = .ok (.iconst 1, 1) := by decide +kernel
theorem dX0_isUnder_24 : decode cX0_isUnder 24 = .ok (.goto 4, 3) := by decide +kernel
theorem dX0_isUnder_27 : decode cX0_isUnder 27 = .ok (.iconst 0, 1) := by decide +kernel
theorem dX0_isUnder_28 : decode cX0_isUnder 28 = .ok (.ireturn, 1) := by decide +kernel
theorem dX1_init_0 : decode cX1_init 0 = .ok (.aload_n 0, 1) := by decide +kernel
theorem dX1_init_1 : decode cX1_init 1 = .ok (.invokespecial 3, 3) := by decide +kernel
theorem dX1_init_4 : decode cX1_init 4 = .ok (.aload_n 0, 1) := by decide +kernel
theorem dX1_init_5 : decode cX1_init 5 = .ok (.bipush 80, 2) := by decide +kernel
theorem dX1_init_7 : decode cX1_init 7 = .ok (.anewarray 9, 3) := by decide +kernel
theorem dX1_init_10 : decode cX1_init 10 = .ok (.putfield 11, 3) := by decide +kernel
theorem dX1_init_13 : decode cX1_init 13 = .ok (.return_, 1) := by decide +kernel
theorem dX1_count_0 : decode cX1_count 0 = .ok (.aload_n 0, 1) := by decide +kernel
theorem dX1_count_1 : decode cX1_count 1 = .ok (.getfield 17, 3) := by decide +kernel
theorem dX1_count_4 : decode cX1_count 4 = .ok (.ireturn, 1) := by decide +kernel
theorem dX1_bailAt_0 : decode cX1_bailAt 0 = .ok (.iload_n 1, 1) := by decide +kernel
theorem dX1_bailAt_1 : decode cX1_bailAt 1 = .ok (.ifCond .lt 29, 3) := by decide +kernel
theorem dX1_bailAt_4 : decode cX1_bailAt 4 = .ok (.iload_n 1, 1) := by decide +kernel
theorem dX1_bailAt_5 : decode cX1_bailAt 5 = .ok (.aload_n 0, 1) := by decide +kernel
theorem dX1_bailAt_6 : decode cX1_bailAt 6 = .ok (.getfield 17, 3) := by decide +kernel
theorem dX1_bailAt_9 : decode cX1_bailAt 9 = .ok (.if_icmp .ge 21, 3) := by decide +kernel
theorem dX1_bailAt_12 : decode cX1_bailAt 12 = .ok (.iload_n 1, 1) := by decide +kernel
theorem dX1_bailAt_13 : decode cX1_bailAt 13 = .ok (.aload_n 0, 1) := by decide +kernel
theorem dX1_bailAt_14 : decode cX1_bailAt 14 = .ok (.getfield 11, 3) := by decide +kernel
theorem dX1_bailAt_17 : decode cX1_bailAt 17 = .ok (.arraylength, 1) := by decide +kernel
theorem dX1_bailAt_18 : decode cX1_bailAt 18 = .ok (.if_icmp .ge 12, 3) := by decide +kernel
theorem dX1_bailAt_21 : decode cX1_bailAt 21 = .ok (.aload_n 0, 1) := by decide +kernel
theorem dX1_bailAt_22 : decode cX1_bailAt 22 = .ok (.getfield 11, 3) := by decide +kernel
theorem dX1_bailAt_25 : decode cX1_bailAt 25 = .ok (.iload_n 1, 1) := by decide +kernel
theorem dX1_bailAt_26 : decode cX1_bailAt 26 = .ok (.aaload, 1) := by decide +kernel
theorem dX1_bailAt_27 : decode cX1_bailAt 27 = .ok (.goto 4, 3) := by decide +kernel
theorem dX1_bailAt_30 : decode cX1_bailAt 30 = .ok (.aconst_null, 1) := by decide +kernel
theorem dX1_bailAt_31 : decode cX1_bailAt 31 = .ok (.areturn, 1) := by decide +kernel
set_option maxRecDepth 20000 in
theorem ggX1_numberAt_X1_bailAt : GoodIn wsX1_numberAt wsX1_bailAt := goodIn_r _ [6, 7, 8, 14, 15] (by decide +kernel) (by decide +kernel)
set_option maxRecDepth 20000 in
theorem gX1_numberAt_X1_bailAt : GoodIn wsX1_numberAt (wsV RX1 21 RX1 yX1_bailAt wsX1_bailAt) := goodIn_app (goodIn_of _ (by decide +kernel)) ggX1_numberAt_X1_bailAt
theorem dX1_numberAt_0 : decode cX1_numberAt 0 = .ok (.aload_n 0, 1) := by decide +kernel
theorem dX1_numberAt_1 : decode cX1_numberAt 1 = .ok (.iload_n 1, 1) := by decide +kernel
theorem dX1_numberAt_2 : decode cX1_numberAt 2 = .ok (.invokevirtual 21, 3) := by decide +kernel
theorem dX1_numberAt_5 : decode cX1_numberAt 5 = .ok (.astore_n 2, 1) := by decide +kernel
theorem dX1_numberAt_6 : decode cX1_numberAt 6 = .ok (.aload_n 2, 1) := by decide +kernel
theorem dX1_numberAt_7 : decode cX1_numberAt 7 = .ok (.ifnonnull 7, 3) := by decide +kernel
theorem dX1_numberAt_10 : decode cX1_numberAt 10 = .ok (.iconst (-1), 1) := by decide +kernel
theorem dX1_numberAt_11 : decode cX1_numberAt 11 = .ok (.goto 7, 3) := by decide +kernel
theorem dX1_numberAt_14 : decode cX1_numberAt 14 = .ok (.aload_n 2, 1) := by decide +kernel
theorem dX1_numberAt_15 : decode cX1_numberAt 15 = .ok (.getfield 25, 3) := by decide +kernel
theorem dX1_numberAt_18 : decode cX1_numberAt 18 = .ok (.ireturn, 1) := by decide +kernel
set_option maxRecDepth 20000 in
theorem ggX1_countUpTo_X1_numberAt : GoodIn wsX1_countUpTo wsX1_numberAt := goodIn_r _ [6, 7, 8, 9, 10, 5, 11, 1, 12, 15, 16, 17, 18, 19, 13, 14] (by decide +kernel) (by decide +kernel)
set_option maxRecDepth 20000 in
theorem gX1_countUpTo_X1_numberAt : GoodIn wsX1_countUpTo (wsV RX1 28 RX1 yX1_numberAt wsX1_numberAt) := goodIn_app (goodIn_of _ (by decide +kernel)) ggX1_countUpTo_X1_numberAt
theorem dX1_countUpTo_0 : decode cX1_countUpTo 0 = .ok (.iconst 0, 1) := by decide +kernel
theorem dX1_countUpTo_1 : decode cX1_countUpTo 1 = .ok (.istore_n 2, 1) := by decide +kernel
theorem dX1_countUpTo_2 : decode cX1_countUpTo 2 = .ok (.iload_n 2, 1) := by decide +kernel
theorem dX1_countUpTo_3 : decode cX1_countUpTo 3 = .ok (.aload_n 0, 1) := by decide +kernel
theorem dX1_countUpTo_4 : decode cX1_countUpTo 4 = .ok (.getfield 17, 3) := by decide +kernel
theorem dX1_countUpTo_7 : decode cX1_countUpTo 7 = .ok (.if_icmp .ge 18, 3) := by decide +kernel
theorem dX1_countUpTo_10 : decode cX1_countUpTo 10 = .ok (.aload_n 0, 1) := by decide +kernel
theorem dX1_countUpTo_11 : decode cX1_countUpTo 11 = .ok (.iload_n 2, 1) := by decide +kernel
theorem dX1_countUpTo_12 : decode cX1_countUpTo 12 = .ok (.invokevirtual 28, 3) := by decide +kernel
theorem dX1_countUpTo_15 : decode cX1_countUpTo 15 = .ok (.iload_n 1, 1) := by decide +kernel
theorem dX1_countUpTo_16 : decode cX1_countUpTo 16 = .ok (.if_icmp .gt 9, 3) := by decide +kernel
theorem dX1_countUpTo_19 : decode cX1_countUpTo 19 = .ok (.iinc 2 1, 3) := by decide +kernel
theorem dX1_countUpTo_22 : decode cX1_countUpTo 22 = .ok (.goto (-20), 3) := by decide +kernel
theorem dX1_countUpTo_25 : decode cX1_countUpTo 25 = .ok (.iload_n 2, 1) := by decide +kernel
theorem dX1_countUpTo_26 : decode cX1_countUpTo 26 = .ok (.ireturn, 1) := by decide +kernel
set_option maxRecDepth 20000 in
theorem ggX1_placeOf_X1_countUpTo : GoodIn wsX1_placeOf wsX1_countUpTo := goodIn_r _ [5, 6, 7, 8, 9, 4, 10, 11, 12, 13, 14, 15, 16, 17, 18, 19, 20, 21, 22, 23] (by decide +kernel) (by decide +kernel)
set_option maxRecDepth 20000 in
theorem gX1_placeOf_X1_countUpTo : GoodIn wsX1_placeOf (wsV RX1 32 RX1 yX1_countUpTo wsX1_countUpTo) := goodIn_app (goodIn_of _ (by decide +kernel)) ggX1_placeOf_X1_countUpTo
set_option maxRecDepth 20000 in
theorem ggX1_placeOf_X1_numberAt : GoodIn wsX1_placeOf wsX1_numberAt := goodIn_r _ [10, 11, 12, 13, 14, 4, 15, 6, 16, 19, 20, 21, 22, 23, 17, 18] (by decide +kernel) (by decide +kernel)
set_option maxRecDepth 20000 in
theorem gX1_placeOf_X1_numberAt : GoodIn wsX1_placeOf (wsV RX1 28 RX1 yX1_numberAt wsX1_numberAt) := goodIn_app (goodIn_of _ (by decide +kernel)) ggX1_placeOf_X1_numberAt
theorem dX1_placeOf_0 : decode cX1_placeOf 0 = .ok (.aload_n 0, 1) := by decide +kernel
theorem dX1_placeOf_1 : decode cX1_placeOf 1 = .ok (.iload_n 1, 1) := by decide +kernel
theorem dX1_placeOf_2 : decode cX1_placeOf 2 = .ok (.invokevirtual 32, 3) := by decide +kernel
theorem dX1_placeOf_5 : decode cX1_placeOf 5 = .ok (.iconst 1, 1) := by decide +kernel
theorem dX1_placeOf_6 : decode cX1_placeOf 6 = .ok (.isub, 1) := by decide +kernel
theorem dX1_placeOf_7 : decode cX1_placeOf 7 = .ok (.istore_n 2, 1) := by decide +kernel
theorem dX1_placeOf_8 : decode cX1_placeOf 8 = .ok (.iload_n 2, 1) := by decide +kernel
theorem dX1_placeOf_9 : decode cX1_placeOf 9 = .ok (.ifCond .lt 16, 3) := by decide +kernel
theorem dX1_placeOf_12 : decode cX1_placeOf 12 = .ok (.aload_n 0, 1) := by decide +kernel
theorem dX1_placeOf_13 : decode cX1_placeOf 13 = .ok (.iload_n 2, 1) := by decide +kernel
theorem dX1_placeOf_14 : decode cX1_placeOf 14 = .ok (.invokevirtual 28, 3) := by decide +kernel
theorem dX1_placeOf_17 : decode cX1_placeOf 17 = .ok (.iload_n 1, 1) := by decide +kernel
theorem dX1_placeOf_18 : decode cX1_placeOf 18 = .ok (.if_icmp .ne 7, 3) := by decide +kernel
theorem dX1_placeOf_21 : decode cX1_placeOf 21 = .ok (.iload_n 2, 1) := by decide +kernel
theorem dX1_placeOf_22 : decode cX1_placeOf 22 = .ok (.goto 4, 3) := by decide +kernel
theorem dX1_placeOf_25 : decode cX1_placeOf 25 = .ok (.iconst (-1), 1) := by decide +kernel
theorem dX1_placeOf_26 : decode cX1_placeOf 26 = .ok (.ireturn, 1) := by decide +kernel
set_option maxRecDepth 20000 in
theorem ggX1_find_X1_placeOf : GoodIn wsX1_find wsX1_placeOf := goodIn_r _ [5, 6, 7, 8, 4, 9, 10, 11, 12, 13, 14, 15, 16, 17, 18, 19, 20, 21, 22, 23, 24, 25, 26, 27] (by decide +kernel) (by decide +kernel)
set_option maxRecDepth 20000 in
theorem gX1_find_X1_placeOf : GoodIn wsX1_find (wsV RX1 35 RX1 yX1_placeOf wsX1_placeOf) := goodIn_app (goodIn_of _ (by decide +kernel)) ggX1_find_X1_placeOf
set_option maxRecDepth 20000 in
theorem ggX1_find_X1_bailAt : GoodIn wsX1_find wsX1_bailAt := goodIn_r _ [19, 10, 20, 21, 22] (by decide +kernel) (by decide +kernel)
set_option maxRecDepth 20000 in
theorem gX1_find_X1_bailAt : GoodIn wsX1_find (wsV RX1 21 RX1 yX1_bailAt wsX1_bailAt) := goodIn_app (goodIn_of _ (by decide +kernel)) ggX1_find_X1_bailAt
theorem dX1_find_0 : decode cX1_find 0 = .ok (.aload_n 0, 1) := by decide +kernel
theorem dX1_find_1 : decode cX1_find 1 = .ok (.aload_n 0, 1) := by decide +kernel
theorem dX1_find_2 : decode cX1_find 2 = .ok (.iload_n 1, 1) := by decide +kernel
theorem dX1_find_3 : decode cX1_find 3 = .ok (.invokevirtual 35, 3) := by decide +kernel
theorem dX1_find_6 : decode cX1_find 6 = .ok (.invokevirtual 21, 3) := by decide +kernel
theorem dX1_find_9 : decode cX1_find 9 = .ok (.areturn, 1) := by decide +kernel
set_option maxRecDepth 20000 in
theorem ggX1_sumOfSurety_X1_bailAt : GoodIn wsX1_sumOfSurety wsX1_bailAt := goodIn_r _ [8, 1, 9, 10, 11] (by decide +kernel) (by decide +kernel)
set_option maxRecDepth 20000 in
theorem gX1_sumOfSurety_X1_bailAt : GoodIn wsX1_sumOfSurety (wsV RX1 21 RX1 yX1_bailAt wsX1_bailAt) := goodIn_app (goodIn_of _ (by decide +kernel)) ggX1_sumOfSurety_X1_bailAt
theorem dX1_sumOfSurety_0 : decode cX1_sumOfSurety 0 = .ok (.iconst 0, 1) := by decide +kernel
theorem dX1_sumOfSurety_1 : decode cX1_sumOfSurety 1 = .ok (.istore_n 2, 1) := by decide +kernel
theorem dX1_sumOfSurety_2 : decode cX1_sumOfSurety 2 = .ok (.iconst 0, 1) := by decide +kernel
theorem dX1_sumOfSurety_3 : decode cX1_sumOfSurety 3 = .ok (.istore_n 3, 1) := by decide +kernel
theorem dX1_sumOfSurety_4 : decode cX1_sumOfSurety 4 = .ok (.iload_n 3, 1) := by decide +kernel
theorem dX1_sumOfSurety_5 : decode cX1_sumOfSurety 5 = .ok (.aload_n 0, 1) := by decide +kernel
theorem dX1_sumOfSurety_6 : decode cX1_sumOfSurety 6 = .ok (.getfield 17, 3) := by decide +kernel
theorem dX1_sumOfSurety_9 : decode cX1_sumOfSurety 9 = .ok (.if_icmp .ge 38, 3) := by decide +kernel
theorem dX1_sumOfSurety_12 : decode cX1_sumOfSurety 12 = .ok (.aload_n 0, 1) := by decide +kernel
theorem dX1_sumOfSurety_13 : decode cX1_sumOfSurety 13 = .ok (.iload_n 3, 1) := by decide +kernel
theorem dX1_sumOfSurety_14 : decode cX1_sumOfSurety 14 = .ok (.invokevirtual 21, 3) := by decide +kernel
theorem dX1_sumOfSurety_17 : decode cX1_sumOfSurety 17 = .ok (.astore 4, 2) := by decide +kernel
theorem dX1_sumOfSurety_19 : decode cX1_sumOfSurety 19 = .ok (.aload 4, 2) := by decide +kernel
theorem dX1_sumOfSurety_21 : decode cX1_sumOfSurety 21 = .ok (.ifnull 20, 3) := by decide +kernel
theorem dX1_sumOfSurety_24 : decode cX1_sumOfSurety 24 = .ok (.aload 4, 2) := by decide +kernel
theorem dX1_sumOfSurety_26 : decode cX1_sumOfSurety 26 = .ok (.getfield 38, 3) := by decide +kernel
theorem dX1_sumOfSurety_29 : decode cX1_sumOfSurety 29 = .ok (.iload_n 1, 1) := by decide +kernel
theorem dX1_sumOfSurety_30 : decode cX1_sumOfSurety 30 = .ok (.if_icmp .ne 11, 3) := by decide +kernel
theorem dX1_sumOfSurety_33 : decode cX1_sumOfSurety 33 = .ok (.iload_n 2, 1) := by decide +kernel
theorem dX1_sumOfSurety_34 : decode cX1_sumOfSurety 34 = .ok (.aload 4, 2) := by decide +kernel
theorem dX1_sumOfSurety_36 : decode cX1_sumOfSurety 36 = .ok (.getfield 41, 3) := by decide +kernel
theorem dX1_sumOfSurety_39 : decode cX1_sumOfSurety 39 = .ok (.iadd, 1) := by decide +kernel
theorem dX1_sumOfSurety_40 : decode cX1_sumOfSurety 40 = .ok (.istore_n 2, 1) := by decide +kernel
theorem dX1_sumOfSurety_41 : decode cX1_sumOfSurety 41 = .ok (.iinc 3 1, 3) := by decide +kernel
theorem dX1_sumOfSurety_44 : decode cX1_sumOfSurety 44 = .ok (.goto (-40), 3) := by decide +kernel
theorem dX1_sumOfSurety_47 : decode cX1_sumOfSurety 47 = .ok (.iload_n 2, 1) := by decide +kernel
theorem dX1_sumOfSurety_48 : decode cX1_sumOfSurety 48 = .ok (.ireturn, 1) := by decide +kernel
theorem dX1_insert_0 : decode cX1_insert 0 = .ok (.iload_n 1, 1) := by decide +kernel
theorem dX1_insert_1 : decode cX1_insert 1 = .ok (.ifCond .lt 23, 3) := by decide +kernel
theorem dX1_insert_4 : decode cX1_insert 4 = .ok (.iload_n 1, 1) := by decide +kernel
theorem dX1_insert_5 : decode cX1_insert 5 = .ok (.aload_n 0, 1) := by decide +kernel
theorem dX1_insert_6 : decode cX1_insert 6 = .ok (.getfield 17, 3) := by decide +kernel
theorem dX1_insert_9 : decode cX1_insert 9 = .ok (.if_icmp .gt 15, 3) := by decide +kernel
theorem dX1_insert_12 : decode cX1_insert 12 = .ok (.aload_n 0, 1) := by decide +kernel
theorem dX1_insert_13 : decode cX1_insert 13 = .ok (.getfield 17, 3) := by decide +kernel
theorem dX1_insert_16 : decode cX1_insert 16 = .ok (.aload_n 0, 1) := by decide +kernel
theorem dX1_insert_17 : decode cX1_insert 17 = .ok (.getfield 11, 3) := by decide +kernel
theorem dX1_insert_20 : decode cX1_insert 20 = .ok (.arraylength, 1) := by decide +kernel
theorem dX1_insert_21 : decode cX1_insert 21 = .ok (.if_icmp .lt 4, 3) := by decide +kernel
theorem dX1_insert_24 : decode cX1_insert 24 = .ok (.return_, 1) := by decide +kernel
theorem dX1_insert_25 : decode cX1_insert 25 = .ok (.aload_n 0, 1) := by decide +kernel
theorem dX1_insert_26 : decode cX1_insert 26 = .ok (.getfield 17, 3) := by decide +kernel
theorem dX1_insert_29 : decode cX1_insert 29 = .ok (.istore_n 3, 1) := by decide +kernel
theorem dX1_insert_30 : decode cX1_insert 30 = .ok (.iload_n 3, 1) := by decide +kernel
theorem dX1_insert_31 : decode cX1_insert 31 = .ok (.iload_n 1, 1) := by decide +kernel
theorem dX1_insert_32 : decode cX1_insert 32 = .ok (.if_icmp .le 23, 3) := by decide +kernel
theorem dX1_insert_35 : decode cX1_insert 35 = .ok (.aload_n 0, 1) := by decide +kernel
theorem dX1_insert_36 : decode cX1_insert 36 = .ok (.getfield 11, 3) := by decide +kernel
theorem dX1_insert_39 : decode cX1_insert 39 = .ok (.iload_n 3, 1) := by decide +kernel
theorem dX1_insert_40 : decode cX1_insert 40 = .ok (.aload_n 0, 1) := by decide +kernel
theorem dX1_insert_41 : decode cX1_insert 41 = .ok (.getfield 11, 3) := by decide +kernel
theorem dX1_insert_44 : decode cX1_insert 44 = .ok (.iload_n 3, 1) := by decide +kernel
theorem dX1_insert_45 : decode cX1_insert 45 = .ok (.iconst 1, 1) := by decide +kernel
theorem dX1_insert_46 : decode cX1_insert 46 = .ok (.isub, 1) := by decide +kernel
theorem dX1_insert_47 : decode cX1_insert 47 = .ok (.aaload, 1) := by decide +kernel
theorem dX1_insert_48 : decode cX1_insert 48 = .ok (.aastore, 1) := by decide +kernel
theorem dX1_insert_49 : decode cX1_insert 49 = .ok (.iinc 3 (-1), 3) := by decide +kernel
theorem dX1_insert_52 : decode cX1_insert 52 = .ok (.goto (-22), 3) := by decide +kernel
theorem dX1_insert_55 : decode cX1_insert 55 = .ok (.aload_n 0, 1) := by decide +kernel
theorem dX1_insert_56 : decode cX1_insert 56 = .ok (.getfield 11, 3) := by decide +kernel
theorem dX1_insert_59 : decode cX1_insert 59 = .ok (.iload_n 1, 1) := by decide +kernel
theorem dX1_insert_60 : decode cX1_insert 60 = .ok (.aload_n 2, 1) := by decide +kernel
theorem dX1_insert_61 : decode cX1_insert 61 = .ok (.aastore, 1) := by decide +kernel
theorem dX1_insert_62 : decode cX1_insert 62 = .ok (.aload_n 0, 1) := by decide +kernel
theorem dX1_insert_63 : decode cX1_insert 63 = .ok (.dup, 1) := by decide +kernel
theorem dX1_insert_64 : decode cX1_insert 64 = .ok (.getfield 17, 3) := by decide +kernel
theorem dX1_insert_67 : decode cX1_insert 67 = .ok (.iconst 1, 1) := by decide +kernel
theorem dX1_insert_68 : decode cX1_insert 68 = .ok (.iadd, 1) := by decide +kernel
theorem dX1_insert_69 : decode cX1_insert 69 = .ok (.putfield 17, 3) := by decide +kernel
theorem dX1_insert_72 : decode cX1_insert 72 = .ok (.return_, 1) := by decide +kernel
set_option maxRecDepth 20000 in
theorem ggX1_remove_X1_bailAt : GoodIn wsX1_remove wsX1_bailAt := goodIn_r _ [7, 1, 2, 8, 9] (by decide +kernel) (by decide +kernel)
set_option maxRecDepth 20000 in
theorem gX1_remove_X1_bailAt : GoodIn wsX1_remove (wsV RX1 21 RX1 yX1_bailAt wsX1_bailAt) := goodIn_app (goodIn_of _ (by decide +kernel)) ggX1_remove_X1_bailAt
theorem dX1_remove_0 : decode cX1_remove 0 = .ok (.aload_n 0, 1) := by decide +kernel
theorem dX1_remove_1 : decode cX1_remove 1 = .ok (.iload_n 1, 1) := by decide +kernel
theorem dX1_remove_2 : decode cX1_remove 2 = .ok (.invokevirtual 21, 3) := by decide +kernel
theorem dX1_remove_5 : decode cX1_remove 5 = .ok (.ifnonnull 4, 3) := by decide +kernel
theorem dX1_remove_8 : decode cX1_remove 8 = .ok (.return_, 1) := by decide +kernel
theorem dX1_remove_9 : decode cX1_remove 9 = .ok (.aload_n 0, 1) := by decide +kernel
theorem dX1_remove_10 : decode cX1_remove 10 = .ok (.dup, 1) := by decide +kernel
theorem dX1_remove_11 : decode cX1_remove 11 = .ok (.getfield 17, 3) := by decide +kernel
theorem dX1_remove_14 : decode cX1_remove 14 = .ok (.iconst 1, 1) := by decide +kernel
theorem dX1_remove_15 : decode cX1_remove 15 = .ok (.isub, 1) := by decide +kernel
theorem dX1_remove_16 : decode cX1_remove 16 = .ok (.putfield 17, 3) := by decide +kernel
theorem dX1_remove_19 : decode cX1_remove 19 = .ok (.iload_n 1, 1) := by decide +kernel
theorem dX1_remove_20 : decode cX1_remove 20 = .ok (.istore_n 2, 1) := by decide +kernel
theorem dX1_remove_21 : decode cX1_remove 21 = .ok (.iload_n 2, 1) := by decide +kernel
theorem dX1_remove_22 : decode cX1_remove 22 = .ok (.aload_n 0, 1) := by decide +kernel
theorem dX1_remove_23 : decode cX1_remove 23 = .ok (.getfield 17, 3) := by decide +kernel
theorem dX1_remove_26 : decode cX1_remove 26 = .ok (.if_icmp .ge 23, 3) := by decide +kernel
theorem dX1_remove_29 : decode cX1_remove 29 = .ok (.aload_n 0, 1) := by decide +kernel
theorem dX1_remove_30 : decode cX1_remove 30 = .ok (.getfield 11, 3) := by decide +kernel
theorem dX1_remove_33 : decode cX1_remove 33 = .ok (.iload_n 2, 1) := by decide +kernel
theorem dX1_remove_34 : decode cX1_remove 34 = .ok (.aload_n 0, 1) := by decide +kernel
theorem dX1_remove_35 : decode cX1_remove 35 = .ok (.getfield 11, 3) := by decide +kernel
theorem dX1_remove_38 : decode cX1_remove 38 = .ok (.iload_n 2, 1) := by decide +kernel
theorem dX1_remove_39 : decode cX1_remove 39 = .ok (.iconst 1, 1) := by decide +kernel
theorem dX1_remove_40 : decode cX1_remove 40 = .ok (.iadd, 1) := by decide +kernel
theorem dX1_remove_41 : decode cX1_remove 41 = .ok (.aaload, 1) := by decide +kernel
theorem dX1_remove_42 : decode cX1_remove 42 = .ok (.aastore, 1) := by decide +kernel
theorem dX1_remove_43 : decode cX1_remove 43 = .ok (.iinc 2 1, 3) := by decide +kernel
theorem dX1_remove_46 : decode cX1_remove 46 = .ok (.goto (-25), 3) := by decide +kernel
theorem dX1_remove_49 : decode cX1_remove 49 = .ok (.aload_n 0, 1) := by decide +kernel
theorem dX1_remove_50 : decode cX1_remove 50 = .ok (.getfield 11, 3) := by decide +kernel
theorem dX1_remove_53 : decode cX1_remove 53 = .ok (.aload_n 0, 1) := by decide +kernel
theorem dX1_remove_54 : decode cX1_remove 54 = .ok (.getfield 17, 3) := by decide +kernel
theorem dX1_remove_57 : decode cX1_remove 57 = .ok (.aconst_null, 1) := by decide +kernel
theorem dX1_remove_58 : decode cX1_remove 58 = .ok (.aastore, 1) := by decide +kernel
theorem dX1_remove_59 : decode cX1_remove 59 = .ok (.return_, 1) := by decide +kernel
theorem dX2_init_0 : decode cX2_init 0 = .ok (.aload_n 0, 1) := by decide +kernel
theorem dX2_init_1 : decode cX2_init 1 = .ok (.invokespecial 3, 3) := by decide +kernel
theorem dX2_init_4 : decode cX2_init 4 = .ok (.aload_n 0, 1) := by decide +kernel
theorem dX2_init_5 : decode cX2_init 5 = .ok (.bipush 80, 2) := by decide +kernel
theorem dX2_init_7 : decode cX2_init 7 = .ok (.newarray .int, 2) := by decide +kernel
theorem dX2_init_9 : decode cX2_init 9 = .ok (.putfield 9, 3) := by decide +kernel
theorem dX2_init_12 : decode cX2_init 12 = .ok (.return_, 1) := by decide +kernel
theorem dX2_count_0 : decode cX2_count 0 = .ok (.aload_n 0, 1) := by decide +kernel
theorem dX2_count_1 : decode cX2_count 1 = .ok (.getfield 15, 3) := by decide +kernel
theorem dX2_count_4 : decode cX2_count 4 = .ok (.ireturn, 1) := by decide +kernel
theorem dX2_has_0 : decode cX2_has 0 = .ok (.iload_n 1, 1) := by decide +kernel
theorem dX2_has_1 : decode cX2_has 1 = .ok (.ifCond .lt 24, 3) := by decide +kernel
theorem dX2_has_4 : decode cX2_has 4 = .ok (.iload_n 1, 1) := by decide +kernel
theorem dX2_has_5 : decode cX2_has 5 = .ok (.aload_n 0, 1) := by decide +kernel
theorem dX2_has_6 : decode cX2_has 6 = .ok (.getfield 15, 3) := by decide +kernel
theorem dX2_has_9 : decode cX2_has 9 = .ok (.if_icmp .ge 16, 3) := by decide +kernel
theorem dX2_has_12 : decode cX2_has 12 = .ok (.iload_n 1, 1) := by decide +kernel
theorem dX2_has_13 : decode cX2_has 13 = .ok (.aload_n 0, 1) := by decide +kernel
theorem dX2_has_14 : decode cX2_has 14 = .ok (.getfield 9, 3) := by decide +kernel
theorem dX2_has_17 : decode cX2_has 17 = .ok (.arraylength, 1) := by decide +kernel
theorem dX2_has_18 : decode cX2_has 18 = .ok (.if_icmp .ge 7, 3) := by decide +kernel
theorem dX2_has_21 : decode cX2_has 21 = .ok (.iconst 1, 1) := by decide +kernel
theorem dX2_has_22 : decode cX2_has 22 = .ok (.goto 4, 3) := by decide +kernel
theorem dX2_has_25 : decode cX2_has 25 = .ok (.iconst 0, 1) := by decide +kernel
theorem dX2_has_26 : decode cX2_has 26 = .ok (.ireturn, 1) := by decide +kernel
set_option maxRecDepth 20000 in
theorem ggX2_sizeOf_X2_has : GoodIn wsX2_sizeOf wsX2_has := goodIn_r _ [6, 7, 1, 8, 9] (by decide +kernel) (by decide +kernel)
set_option maxRecDepth 20000 in
theorem gX2_sizeOf_X2_has : GoodIn wsX2_sizeOf (wsV RX2 19 RX2 yX2_has wsX2_has) := goodIn_app (goodIn_of _ (by decide +kernel)) ggX2_sizeOf_X2_has
theorem dX2_sizeOf_0 : decode cX2_sizeOf 0 = .ok (.aload_n 0, 1) := by decide +kernel
theorem dX2_sizeOf_1 : decode cX2_sizeOf 1 = .ok (.iload_n 1, 1) := by decide +kernel
theorem dX2_sizeOf_2 : decode cX2_sizeOf 2 = .ok (.invokevirtual 19, 3) := by decide +kernel
theorem dX2_sizeOf_5 : decode cX2_sizeOf 5 = .ok (.ifCond .eq 12, 3) := by decide +kernel
theorem dX2_sizeOf_8 : decode cX2_sizeOf 8 = .ok (.aload_n 0, 1) := by decide +kernel
theorem dX2_sizeOf_9 : decode cX2_sizeOf 9 = .ok (.getfield 9, 3) := by decide +kernel
theorem dX2_sizeOf_12 : decode cX2_sizeOf 12 = .ok (.iload_n 1, 1) := by decide +kernel
theorem dX2_sizeOf_13 : decode cX2_sizeOf 13 = .ok (.iaload, 1) := by decide +kernel
theorem dX2_sizeOf_14 : decode cX2_sizeOf 14 = .ok (.goto 4, 3) := by decide +kernel
theorem dX2_sizeOf_17 : decode cX2_sizeOf 17 = .ok (.iconst 0, 1) := by decide +kernel
theorem dX2_sizeOf_18 : decode cX2_sizeOf 18 = .ok (.ireturn, 1) := by decide +kernel
set_option maxRecDepth 20000 in
theorem ggX2_beginOf_X2_sizeOf : GoodIn wsX2_beginOf wsX2_sizeOf := goodIn_r _ [6, 7, 8, 9, 10, 5, 11, 1, 12, 13] (by decide +kernel) (by decide +kernel)
set_option maxRecDepth 20000 in
theorem gX2_beginOf_X2_sizeOf : GoodIn wsX2_beginOf (wsV RX2 23 RX2 yX2_sizeOf wsX2_sizeOf) := goodIn_app (goodIn_of _ (by decide +kernel)) ggX2_beginOf_X2_sizeOf
theorem dX2_beginOf_0 : decode cX2_beginOf 0 = .ok (.iconst 0, 1) := by decide +kernel
theorem dX2_beginOf_1 : decode cX2_beginOf 1 = .ok (.istore_n 2, 1) := by decide +kernel
theorem dX2_beginOf_2 : decode cX2_beginOf 2 = .ok (.iconst 0, 1) := by decide +kernel
theorem dX2_beginOf_3 : decode cX2_beginOf 3 = .ok (.istore_n 3, 1) := by decide +kernel
theorem dX2_beginOf_4 : decode cX2_beginOf 4 = .ok (.iload_n 3, 1) := by decide +kernel
theorem dX2_beginOf_5 : decode cX2_beginOf 5 = .ok (.iload_n 1, 1) := by decide +kernel
theorem dX2_beginOf_6 : decode cX2_beginOf 6 = .ok (.if_icmp .ge 25, 3) := by decide +kernel
theorem dX2_beginOf_9 : decode cX2_beginOf 9 = .ok (.iload_n 3, 1) := by decide +kernel
theorem dX2_beginOf_10 : decode cX2_beginOf 10 = .ok (.aload_n 0, 1) := by decide +kernel
theorem dX2_beginOf_11 : decode cX2_beginOf 11 = .ok (.getfield 15, 3) := by decide +kernel
theorem dX2_beginOf_14 : decode cX2_beginOf 14 = .ok (.if_icmp .ge 17, 3) := by decide +kernel
theorem dX2_beginOf_17 : decode cX2_beginOf 17 = .ok (.iload_n 2, 1) := by decide +kernel
theorem dX2_beginOf_18 : decode cX2_beginOf 18 = .ok (.aload_n 0, 1) := by decide +kernel
theorem dX2_beginOf_19 : decode cX2_beginOf 19 = .ok (.iload_n 3, 1) := by decide +kernel
theorem dX2_beginOf_20 : decode cX2_beginOf 20 = .ok (.invokevirtual 23, 3) := by decide +kernel
theorem dX2_beginOf_23 : decode cX2_beginOf 23 = .ok (.iadd, 1) := by decide +kernel
theorem dX2_beginOf_24 : decode cX2_beginOf 24 = .ok (.istore_n 2, 1) := by decide +kernel
theorem dX2_beginOf_25 : decode cX2_beginOf 25 = .ok (.iinc 3 1, 3) := by decide +kernel
theorem dX2_beginOf_28 : decode cX2_beginOf 28 = .ok (.goto (-24), 3) := by decide +kernel
theorem dX2_beginOf_31 : decode cX2_beginOf 31 = .ok (.iload_n 2, 1) := by decide +kernel
theorem dX2_beginOf_32 : decode cX2_beginOf 32 = .ok (.ireturn, 1) := by decide +kernel
set_option maxRecDepth 20000 in
theorem ggX2_pageWith_X2_sizeOf : GoodIn wsX2_pageWith wsX2_sizeOf := goodIn_r _ [6, 7, 8, 9, 10, 5, 11, 1, 12, 13] (by decide +kernel) (by decide +kernel)
set_option maxRecDepth 20000 in
theorem gX2_pageWith_X2_sizeOf : GoodIn wsX2_pageWith (wsV RX2 23 RX2 yX2_sizeOf wsX2_sizeOf) := goodIn_app (goodIn_of _ (by decide +kernel)) ggX2_pageWith_X2_sizeOf
theorem dX2_pageWith_0 : decode cX2_pageWith 0 = .ok (.iconst 0, 1) := by decide +kernel
theorem dX2_pageWith_1 : decode cX2_pageWith 1 = .ok (.istore_n 2, 1) := by decide +kernel
theorem dX2_pageWith_2 : decode cX2_pageWith 2 = .ok (.iconst 0, 1) := by decide +kernel
theorem dX2_pageWith_3 : decode cX2_pageWith 3 = .ok (.istore_n 3, 1) := by decide +kernel
theorem dX2_pageWith_4 : decode cX2_pageWith 4 = .ok (.iload_n 3, 1) := by decide +kernel
theorem dX2_pageWith_5 : decode cX2_pageWith 5 = .ok (.aload_n 0, 1) := by decide +kernel
theorem dX2_pageWith_6 : decode cX2_pageWith 6 = .ok (.getfield 15, 3) := by decide +kernel
theorem dX2_pageWith_9 : decode cX2_pageWith 9 = .ok (.if_icmp .ge 28, 3) := by decide +kernel
theorem dX2_pageWith_12 : decode cX2_pageWith 12 = .ok (.iload_n 2, 1) := by decide +kernel
theorem dX2_pageWith_13 : decode cX2_pageWith 13 = .ok (.aload_n 0, 1) := by decide +kernel
theorem dX2_pageWith_14 : decode cX2_pageWith 14 = .ok (.iload_n 3, 1) := by decide +kernel
theorem dX2_pageWith_15 : decode cX2_pageWith 15 = .ok (.invokevirtual 23, 3) := by decide +kernel
theorem dX2_pageWith_18 : decode cX2_pageWith 18 = .ok (.iadd, 1) := by decide +kernel
theorem dX2_pageWith_19 : decode cX2_pageWith 19 = .ok (.istore_n 2, 1) := by decide +kernel
theorem dX2_pageWith_20 : decode cX2_pageWith 20 = .ok (.iload_n 1, 1) := by decide +kernel
theorem dX2_pageWith_21 : decode cX2_pageWith 21 = .ok (.ifCond .lt 10, 3) := by decide +kernel
theorem dX2_pageWith_24 : decode cX2_pageWith 24 = .ok (.iload_n 1, 1) := by decide +kernel
theorem dX2_pageWith_25 : decode cX2_pageWith 25 = .ok (.iload_n 2, 1) := by decide +kernel
theorem dX2_pageWith_26 : decode cX2_pageWith 26 = .ok (.if_icmp .ge 5, 3) := by decide +kernel
theorem dX2_pageWith_29 : decode cX2_pageWith 29 = .ok (.iload_n 3, 1) := by decide +kernel
theorem dX2_pageWith_30 : decode cX2_pageWith 30 = .ok (.ireturn, 1) := by decide +kernel
theorem dX2_pageWith_31 : decode cX2_pageWith 31 = .ok (.iinc 3 1, 3) := by decide +kernel
theorem dX2_pageWith_34 : decode cX2_pageWith 34 = .ok (.goto (-30), 3) := by decide +kernel
theorem dX2_pageWith_37 : decode cX2_pageWith 37 = .ok (.iconst (-1), 1) := by decide +kernel
theorem dX2_pageWith_38 : decode cX2_pageWith 38 = .ok (.ireturn, 1) := by decide +kernel
set_option maxRecDepth 20000 in
theorem ggX2_addTo_X2_has : GoodIn wsX2_addTo wsX2_has := goodIn_r _ [7, 1, 2, 8, 9] (by decide +kernel) (by decide +kernel)
set_option maxRecDepth 20000 in
theorem gX2_addTo_X2_has : GoodIn wsX2_addTo (wsV RX2 19 RX2 yX2_has wsX2_has) := goodIn_app (goodIn_of _ (by decide +kernel)) ggX2_addTo_X2_has
theorem dX2_addTo_0 : decode cX2_addTo 0 = .ok (.aload_n 0, 1) := by decide +kernel
theorem dX2_addTo_1 : decode cX2_addTo 1 = .ok (.getfield 15, 3) := by decide +kernel
theorem dX2_addTo_4 : decode cX2_addTo 4 = .ok (.ifCond .ne 18, 3) := by decide +kernel
theorem dX2_addTo_7 : decode cX2_addTo 7 = .ok (.aload_n 0, 1) := by decide +kernel
theorem dX2_addTo_8 : decode cX2_addTo 8 = .ok (.getfield 9, 3) := by decide +kernel
theorem dX2_addTo_11 : decode cX2_addTo 11 = .ok (.iconst 0, 1) := by decide +kernel
theorem dX2_addTo_12 : decode cX2_addTo 12 = .ok (.iconst 1, 1) := by decide +kernel
theorem dX2_addTo_13 : decode cX2_addTo 13 = .ok (.iastore, 1) := by decide +kernel
theorem dX2_addTo_14 : decode cX2_addTo 14 = .ok (.aload_n 0, 1) := by decide +kernel
theorem dX2_addTo_15 : decode cX2_addTo 15 = .ok (.iconst 1, 1) := by decide +kernel
theorem dX2_addTo_16 : decode cX2_addTo 16 = .ok (.putfield 15, 3) := by decide +kernel
theorem dX2_addTo_19 : decode cX2_addTo 19 = .ok (.goto 21, 3) := by decide +kernel
theorem dX2_addTo_22 : decode cX2_addTo 22 = .ok (.aload_n 0, 1) := by decide +kernel
theorem dX2_addTo_23 : decode cX2_addTo 23 = .ok (.iload_n 1, 1) := by decide +kernel
theorem dX2_addTo_24 : decode cX2_addTo 24 = .ok (.invokevirtual 19, 3) := by decide +kernel
theorem dX2_addTo_27 : decode cX2_addTo 27 = .ok (.ifCond .eq 13, 3) := by decide +kernel
theorem dX2_addTo_30 : decode cX2_addTo 30 = .ok (.aload_n 0, 1) := by decide +kernel
theorem dX2_addTo_31 : decode cX2_addTo 31 = .ok (.getfield 9, 3) := by decide +kernel
theorem dX2_addTo_34 : decode cX2_addTo 34 = .ok (.iload_n 1, 1) := by decide +kernel
theorem dX2_addTo_35 : decode cX2_addTo 35 = .ok (.dup2, 1) := by decide +kernel
theorem dX2_addTo_36 : decode cX2_addTo 36 = .ok (.iaload, 1) := by decide +kernel
theorem dX2_addTo_37 : decode cX2_addTo 37 = .ok (.iconst 1, 1) := by decide +kernel
theorem dX2_addTo_38 : decode cX2_addTo 38 = .ok (.iadd, 1) := by decide +kernel
theorem dX2_addTo_39 : decode cX2_addTo 39 = .ok (.iastore, 1) := by decide +kernel
theorem dX2_addTo_40 : decode cX2_addTo 40 = .ok (.return_, 1) := by decide +kernel
set_option maxRecDepth 20000 in
theorem ggX2_split_X2_has : GoodIn wsX2_split wsX2_has := goodIn_r _ [7, 1, 2, 8, 9] (by decide +kernel) (by decide +kernel)
set_option maxRecDepth 20000 in
theorem gX2_split_X2_has : GoodIn wsX2_split (wsV RX2 19 RX2 yX2_has wsX2_has) := goodIn_app (goodIn_of _ (by decide +kernel)) ggX2_split_X2_has
theorem dX2_split_0 : decode cX2_split 0 = .ok (.aload_n 0, 1) := by decide +kernel
theorem dX2_split_1 : decode cX2_split 1 = .ok (.iload_n 1, 1) := by decide +kernel
theorem dX2_split_2 : decode cX2_split 2 = .ok (.invokevirtual 19, 3) := by decide +kernel
theorem dX2_split_5 : decode cX2_split 5 = .ok (.ifCond .eq 15, 3) := by decide +kernel
theorem dX2_split_8 : decode cX2_split 8 = .ok (.aload_n 0, 1) := by decide +kernel
theorem dX2_split_9 : decode cX2_split 9 = .ok (.getfield 15, 3) := by decide +kernel
theorem dX2_split_12 : decode cX2_split 12 = .ok (.aload_n 0, 1) := by decide +kernel
theorem dX2_split_13 : decode cX2_split 13 = .ok (.getfield 9, 3) := by decide +kernel
theorem dX2_split_16 : decode cX2_split 16 = .ok (.arraylength, 1) := by decide +kernel
theorem dX2_split_17 : decode cX2_split 17 = .ok (.if_icmp .lt 4, 3) := by decide +kernel
theorem dX2_split_20 : decode cX2_split 20 = .ok (.return_, 1) := by decide +kernel
theorem dX2_split_21 : decode cX2_split 21 = .ok (.aload_n 0, 1) := by decide +kernel
theorem dX2_split_22 : decode cX2_split 22 = .ok (.getfield 15, 3) := by decide +kernel
theorem dX2_split_25 : decode cX2_split 25 = .ok (.istore_n 2, 1) := by decide +kernel
theorem dX2_split_26 : decode cX2_split 26 = .ok (.iload_n 2, 1) := by decide +kernel
theorem dX2_split_27 : decode cX2_split 27 = .ok (.iload_n 1, 1) := by decide +kernel
theorem dX2_split_28 : decode cX2_split 28 = .ok (.iconst 1, 1) := by decide +kernel
theorem dX2_split_29 : decode cX2_split 29 = .ok (.iadd, 1) := by decide +kernel
theorem dX2_split_30 : decode cX2_split 30 = .ok (.if_icmp .le 23, 3) := by decide +kernel
theorem dX2_split_33 : decode cX2_split 33 = .ok (.aload_n 0, 1) := by decide +kernel
theorem dX2_split_34 : decode cX2_split 34 = .ok (.getfield 9, 3) := by decide +kernel
theorem dX2_split_37 : decode cX2_split 37 = .ok (.iload_n 2, 1) := by decide +kernel
theorem dX2_split_38 : decode cX2_split 38 = .ok (.aload_n 0, 1) := by decide +kernel
theorem dX2_split_39 : decode cX2_split 39 = .ok (.getfield 9, 3) := by decide +kernel
theorem dX2_split_42 : decode cX2_split 42 = .ok (.iload_n 2, 1) := by decide +kernel
theorem dX2_split_43 : decode cX2_split 43 = .ok (.iconst 1, 1) := by decide +kernel
theorem dX2_split_44 : decode cX2_split 44 = .ok (.isub, 1) := by decide +kernel
theorem dX2_split_45 : decode cX2_split 45 = .ok (.iaload, 1) := by decide +kernel
theorem dX2_split_46 : decode cX2_split 46 = .ok (.iastore, 1) := by decide +kernel
theorem dX2_split_47 : decode cX2_split 47 = .ok (.iinc 2 (-1), 3) := by decide +kernel
theorem dX2_split_50 : decode cX2_split 50 = .ok (.goto (-24), 3) := by decide +kernel
theorem dX2_split_53 : decode cX2_split 53 = .ok (.aload_n 0, 1) := by decide +kernel
theorem dX2_split_54 : decode cX2_split 54 = .ok (.getfield 9, 3) := by decide +kernel
theorem dX2_split_57 : decode cX2_split 57 = .ok (.iload_n 1, 1) := by decide +kernel
theorem dX2_split_58 : decode cX2_split 58 = .ok (.iconst 1, 1) := by decide +kernel
theorem dX2_split_59 : decode cX2_split 59 = .ok (.iadd, 1) := by decide +kernel
theorem dX2_split_60 : decode cX2_split 60 = .ok (.iconst 2, 1) := by decide +kernel
theorem dX2_split_61 : decode cX2_split 61 = .ok (.iastore, 1) := by decide +kernel
theorem dX2_split_62 : decode cX2_split 62 = .ok (.aload_n 0, 1) := by decide +kernel
theorem dX2_split_63 : decode cX2_split 63 = .ok (.getfield 9, 3) := by decide +kernel
theorem dX2_split_66 : decode cX2_split 66 = .ok (.iload_n 1, 1) := by decide +kernel
theorem dX2_split_67 : decode cX2_split 67 = .ok (.dup2, 1) := by decide +kernel
theorem dX2_split_68 : decode cX2_split 68 = .ok (.iaload, 1) := by decide +kernel
theorem dX2_split_69 : decode cX2_split 69 = .ok (.iconst 2, 1) := by decide +kernel
theorem dX2_split_70 : decode cX2_split 70 = .ok (.isub, 1) := by decide +kernel
theorem dX2_split_71 : decode cX2_split 71 = .ok (.iastore, 1) := by decide +kernel
theorem dX2_split_72 : decode cX2_split 72 = .ok (.aload_n 0, 1) := by decide +kernel
theorem dX2_split_73 : decode cX2_split 73 = .ok (.dup, 1) := by decide +kernel
theorem dX2_split_74 : decode cX2_split 74 = .ok (.getfield 15, 3) := by decide +kernel
theorem dX2_split_77 : decode cX2_split 77 = .ok (.iconst 1, 1) := by decide +kernel
theorem dX2_split_78 : decode cX2_split 78 = .ok (.iadd, 1) := by decide +kernel
theorem dX2_split_79 : decode cX2_split 79 = .ok (.putfield 15, 3) := by decide +kernel
theorem dX2_split_82 : decode cX2_split 82 = .ok (.return_, 1) := by decide +kernel
set_option maxRecDepth 20000 in
theorem ggX2_takeFrom_X2_has : GoodIn wsX2_takeFrom wsX2_has := goodIn_r _ [7, 2, 1, 24, 25] (by decide +kernel) (by decide +kernel)
set_option maxRecDepth 20000 in
theorem gX2_takeFrom_X2_has : GoodIn wsX2_takeFrom (wsV RX2 19 RX2 yX2_has wsX2_has) := goodIn_app (goodIn_of _ (by decide +kernel)) ggX2_takeFrom_X2_has
set_option maxRecDepth 20000 in
theorem ggX2_takeFrom_X2_remove : GoodIn wsX2_takeFrom wsX2_remove := goodIn_r _ [11, 2, 1, 3, 4, 5, 6, 7, 24, 25] (by decide +kernel) (by decide +kernel)
set_option maxRecDepth 20000 in
theorem gX2_takeFrom_X2_remove : GoodIn wsX2_takeFrom (wsV RX2 27 RX2 yX2_remove wsX2_remove) := goodIn_app (goodIn_of _ (by decide +kernel)) ggX2_takeFrom_X2_remove
set_option maxRecDepth 20000 in
theorem ggX2_takeFrom_X2_borrowOrJoin : GoodIn wsX2_takeFrom wsX2_borrowOrJoin := goodIn_r _ [15, 16, 17, 18, 6, 19, 1, 3, 4, 5, 7, 2, 20, 21, 22, 23, 8, 9, 10, 11, 24, 25] (by decide +kernel) (by decide +kernel)
set_option maxRecDepth 20000 in
theorem gX2_takeFrom_X2_borrowOrJoin : GoodIn wsX2_takeFrom (wsV RX2 31 RX2 yX2_borrowOrJoin wsX2_borrowOrJoin) := goodIn_app (goodIn_of _ (by decide +kernel)) ggX2_takeFrom_X2_borrowOrJoin
theorem dX2_takeFrom_0 : decode cX2_takeFrom 0 = .ok (.aload_n 0, 1) := by decide +kernel
theorem dX2_takeFrom_1 : decode cX2_takeFrom 1 = .ok (.iload_n 1, 1) := by decide +kernel
theorem dX2_takeFrom_2 : decode cX2_takeFrom 2 = .ok (.invokevirtual 19, 3) := by decide +kernel
theorem dX2_takeFrom_5 : decode cX2_takeFrom 5 = .ok (.ifCond .ne 4, 3) := by decide +kernel
theorem dX2_takeFrom_8 : decode cX2_takeFrom 8 = .ok (.return_, 1) := by decide +kernel
theorem dX2_takeFrom_9 : decode cX2_takeFrom 9 = .ok (.aload_n 0, 1) := by decide +kernel
theorem dX2_takeFrom_10 : decode cX2_takeFrom 10 = .ok (.getfield 9, 3) := by decide +kernel
theorem dX2_takeFrom_13 : decode cX2_takeFrom 13 = .ok (.iload_n 1, 1) := by decide +kernel
theorem dX2_takeFrom_14 : decode cX2_takeFrom 14 = .ok (.dup2, 1) := by decide +kernel
theorem dX2_takeFrom_15 : decode cX2_takeFrom 15 = .ok (.iaload, 1) := by decide +kernel
theorem dX2_takeFrom_16 : decode cX2_takeFrom 16 = .ok (.iconst 1, 1) := by decide +kernel
theorem dX2_takeFrom_17 : decode cX2_takeFrom 17 = .ok (.isub, 1) := by decide +kernel
theorem dX2_takeFrom_18 : decode cX2_takeFrom 18 = .ok (.iastore, 1) := by decide +kernel
theorem dX2_takeFrom_19 : decode cX2_takeFrom 19 = .ok (.aload_n 0, 1) := by decide +kernel
theorem dX2_takeFrom_20 : decode cX2_takeFrom 20 = .ok (.getfield 9, 3) := by decide +kernel
theorem dX2_takeFrom_23 : decode cX2_takeFrom 23 = .ok (.iload_n 1, 1) := by decide +kernel
theorem dX2_takeFrom_24 : decode cX2_takeFrom 24 = .ok (.iaload, 1) := by decide +kernel
theorem dX2_takeFrom_25 : decode cX2_takeFrom 25 = .ok (.ifCond .ne 11, 3) := by decide +kernel
theorem dX2_takeFrom_28 : decode cX2_takeFrom 28 = .ok (.aload_n 0, 1) := by decide +kernel
theorem dX2_takeFrom_29 : decode cX2_takeFrom 29 = .ok (.iload_n 1, 1) := by decide +kernel
theorem dX2_takeFrom_30 : decode cX2_takeFrom 30 = .ok (.invokevirtual 27, 3) := by decide +kernel
theorem dX2_takeFrom_33 : decode cX2_takeFrom 33 = .ok (.goto 26, 3) := by decide +kernel
theorem dX2_takeFrom_36 : decode cX2_takeFrom 36 = .ok (.aload_n 0, 1) := by decide +kernel
theorem dX2_takeFrom_37 : decode cX2_takeFrom 37 = .ok (.getfield 9, 3) := by decide +kernel
theorem dX2_takeFrom_40 : decode cX2_takeFrom 40 = .ok (.iload_n 1, 1) := by decide +kernel
theorem dX2_takeFrom_41 : decode cX2_takeFrom 41 = .ok (.iaload, 1) := by decide +kernel
theorem dX2_takeFrom_42 : decode cX2_takeFrom 42 = .ok (.iconst 1, 1) := by decide +kernel
theorem dX2_takeFrom_43 : decode cX2_takeFrom 43 = .ok (.if_icmp .ne 16, 3) := by decide +kernel
theorem dX2_takeFrom_46 : decode cX2_takeFrom 46 = .ok (.aload_n 0, 1) := by decide +kernel
theorem dX2_takeFrom_47 : decode cX2_takeFrom 47 = .ok (.getfield 15, 3) := by decide +kernel
theorem dX2_takeFrom_50 : decode cX2_takeFrom 50 = .ok (.iconst 1, 1) := by decide +kernel
theorem dX2_takeFrom_51 : decode cX2_takeFrom 51 = .ok (.if_icmp .le 8, 3) := by decide +kernel
theorem dX2_takeFrom_54 : decode cX2_takeFrom 54 = .ok (.aload_n 0, 1) := by decide +kernel
theorem dX2_takeFrom_55 : decode cX2_takeFrom 55 = .ok (.iload_n 1, 1) := by decide +kernel
theorem dX2_takeFrom_56 : decode cX2_takeFrom 56 = .ok (.invokevirtual 31, 3) := by decide +kernel
theorem dX2_takeFrom_59 : decode cX2_takeFrom 59 = .ok (.return_, 1) := by decide +kernel
set_option maxRecDepth 20000 in
theorem ggX2_move_X2_has : GoodIn wsX2_move wsX2_has := goodIn_r _ [6, 7, 1, 12, 13] (by decide +kernel) (by decide +kernel)
set_option maxRecDepth 20000 in
theorem gX2_move_X2_has : GoodIn wsX2_move (wsV RX2 19 RX2 yX2_has wsX2_has) := goodIn_app (goodIn_of _ (by decide +kernel)) ggX2_move_X2_has
set_option maxRecDepth 20000 in
theorem ggX2_move_X2_remove : GoodIn wsX2_move wsX2_remove := goodIn_r _ [11, 7, 1, 2, 3, 4, 5, 6, 12, 13] (by decide +kernel) (by decide +kernel)
set_option maxRecDepth 20000 in
theorem gX2_move_X2_remove : GoodIn wsX2_move (wsV RX2 27 RX2 yX2_remove wsX2_remove) := goodIn_app (goodIn_of _ (by decide +kernel)) ggX2_move_X2_remove
theorem dX2_move_0 : decode cX2_move 0 = .ok (.aload_n 0, 1) := by decide +kernel
theorem dX2_move_1 : decode cX2_move 1 = .ok (.iload_n 1, 1) := by decide +kernel
theorem dX2_move_2 : decode cX2_move 2 = .ok (.invokevirtual 19, 3) := by decide +kernel
theorem dX2_move_5 : decode cX2_move 5 = .ok (.ifCond .eq 11, 3) := by decide +kernel
theorem dX2_move_8 : decode cX2_move 8 = .ok (.aload_n 0, 1) := by decide +kernel
theorem dX2_move_9 : decode cX2_move 9 = .ok (.iload_n 2, 1) := by decide +kernel
theorem dX2_move_10 : decode cX2_move 10 = .ok (.invokevirtual 19, 3) := by decide +kernel
theorem dX2_move_13 : decode cX2_move 13 = .ok (.ifCond .ne 4, 3) := by decide +kernel
theorem dX2_move_16 : decode cX2_move 16 = .ok (.return_, 1) := by decide +kernel
theorem dX2_move_17 : decode cX2_move 17 = .ok (.aload_n 0, 1) := by decide +kernel
theorem dX2_move_18 : decode cX2_move 18 = .ok (.getfield 9, 3) := by decide +kernel
theorem dX2_move_21 : decode cX2_move 21 = .ok (.iload_n 1, 1) := by decide +kernel
theorem dX2_move_22 : decode cX2_move 22 = .ok (.dup2, 1) := by decide +kernel
theorem dX2_move_23 : decode cX2_move 23 = .ok (.iaload, 1) := by decide +kernel
theorem dX2_move_24 : decode cX2_move 24 = .ok (.iconst 1, 1) := by decide +kernel
theorem dX2_move_25 : decode cX2_move 25 = .ok (.isub, 1) := by decide +kernel
theorem dX2_move_26 : decode cX2_move 26 = .ok (.iastore, 1) := by decide +kernel
theorem dX2_move_27 : decode cX2_move 27 = .ok (.aload_n 0, 1) := by decide +kernel
theorem dX2_move_28 : decode cX2_move 28 = .ok (.getfield 9, 3) := by decide +kernel
theorem dX2_move_31 : decode cX2_move 31 = .ok (.iload_n 2, 1) := by decide +kernel
theorem dX2_move_32 : decode cX2_move 32 = .ok (.dup2, 1) := by decide +kernel
theorem dX2_move_33 : decode cX2_move 33 = .ok (.iaload, 1) := by decide +kernel
theorem dX2_move_34 : decode cX2_move 34 = .ok (.iconst 1, 1) := by decide +kernel
theorem dX2_move_35 : decode cX2_move 35 = .ok (.iadd, 1) := by decide +kernel
theorem dX2_move_36 : decode cX2_move 36 = .ok (.iastore, 1) := by decide +kernel
theorem dX2_move_37 : decode cX2_move 37 = .ok (.aload_n 0, 1) := by decide +kernel
theorem dX2_move_38 : decode cX2_move 38 = .ok (.getfield 9, 3) := by decide +kernel
theorem dX2_move_41 : decode cX2_move 41 = .ok (.iload_n 1, 1) := by decide +kernel
theorem dX2_move_42 : decode cX2_move 42 = .ok (.iaload, 1) := by decide +kernel
theorem dX2_move_43 : decode cX2_move 43 = .ok (.ifCond .ne 8, 3) := by decide +kernel
theorem dX2_move_46 : decode cX2_move 46 = .ok (.aload_n 0, 1) := by decide +kernel
theorem dX2_move_47 : decode cX2_move 47 = .ok (.iload_n 1, 1) := by decide +kernel
theorem dX2_move_48 : decode cX2_move 48 = .ok (.invokevirtual 27, 3) := by decide +kernel
theorem dX2_move_51 : decode cX2_move 51 = .ok (.return_, 1) := by decide +kernel
set_option maxRecDepth 20000 in
theorem ggX2_borrowOrJoin_X2_sizeOf : GoodIn wsX2_borrowOrJoin wsX2_sizeOf := goodIn_r _ [5, 6, 7, 8, 9, 4, 10, 11, 20, 21] (by decide +kernel) (by decide +kernel)
set_option maxRecDepth 20000 in
theorem gX2_borrowOrJoin_X2_sizeOf : GoodIn wsX2_borrowOrJoin (wsV RX2 23 RX2 yX2_sizeOf wsX2_sizeOf) := goodIn_app (goodIn_of _ (by decide +kernel)) ggX2_borrowOrJoin_X2_sizeOf
set_option maxRecDepth 20000 in
theorem ggX2_borrowOrJoin_X2_move : GoodIn wsX2_borrowOrJoin wsX2_move := goodIn_r _ [15, 6, 7, 8, 9, 4, 10, 11, 16, 17, 18, 19, 20, 21] (by decide +kernel) (by decide +kernel)
set_option maxRecDepth 20000 in
theorem gX2_borrowOrJoin_X2_move : GoodIn wsX2_borrowOrJoin (wsV RX2 34 RX2 yX2_move wsX2_move) := goodIn_app (goodIn_of _ (by decide +kernel)) ggX2_borrowOrJoin_X2_move
set_option maxRecDepth 20000 in
theorem ggX2_borrowOrJoin_X2_has : GoodIn wsX2_borrowOrJoin wsX2_has := goodIn_r _ [10, 11, 6, 20, 21] (by decide +kernel) (by decide +kernel)
set_option maxRecDepth 20000 in
theorem gX2_borrowOrJoin_X2_has : GoodIn wsX2_borrowOrJoin (wsV RX2 19 RX2 yX2_has wsX2_has) := goodIn_app (goodIn_of _ (by decide +kernel)) ggX2_borrowOrJoin_X2_has
theorem dX2_borrowOrJoin_0 : decode cX2_borrowOrJoin 0 = .ok (.aload_n 0, 1) := by decide +kernel
theorem dX2_borrowOrJoin_1 : decode cX2_borrowOrJoin 1 = .ok (.iload_n 1, 1) := by decide +kernel
theorem dX2_borrowOrJoin_2 : decode cX2_borrowOrJoin 2 = .ok (.iconst 1, 1) := by decide +kernel
theorem dX2_borrowOrJoin_3 : decode cX2_borrowOrJoin 3 = .ok (.iadd, 1) := by decide +kernel
theorem dX2_borrowOrJoin_4 : decode cX2_borrowOrJoin 4 = .ok (.invokevirtual 23, 3) := by decide +kernel
theorem dX2_borrowOrJoin_7 : decode cX2_borrowOrJoin 7 = .ok (.iconst 3, 1) := by decide +kernel
theorem dX2_borrowOrJoin_8 : decode cX2_borrowOrJoin 8 = .ok (.if_icmp .lt 14, 3) := by decide +kernel
theorem dX2_borrowOrJoin_11 : decode cX2_borrowOrJoin 11 = .ok (.aload_n 0, 1) := by decide +kernel
theorem dX2_borrowOrJoin_12 : decode cX2_borrowOrJoin 12 = .ok (.iload_n 1, 1) := by decide +kernel
theorem dX2_borrowOrJoin_13 : decode cX2_borrowOrJoin 13 = .ok (.iconst 1, 1) := by decide +kernel
theorem dX2_borrowOrJoin_14 : decode cX2_borrowOrJoin 14 = .ok (.iadd, 1) := by decide +kernel
theorem dX2_borrowOrJoin_15 : decode cX2_borrowOrJoin 15 = .ok (.iload_n 1, 1) := by decide +kernel
theorem dX2_borrowOrJoin_16 : decode cX2_borrowOrJoin 16 = .ok (.invokevirtual 34, 3) := by decide +kernel
theorem dX2_borrowOrJoin_19 : decode cX2_borrowOrJoin 19 = .ok (.goto 54, 3) := by decide +kernel
theorem dX2_borrowOrJoin_22 : decode cX2_borrowOrJoin 22 = .ok (.aload_n 0, 1) := by decide +kernel
theorem dX2_borrowOrJoin_23 : decode cX2_borrowOrJoin 23 = .ok (.iload_n 1, 1) := by decide +kernel
theorem dX2_borrowOrJoin_24 : decode cX2_borrowOrJoin 24 = .ok (.iconst 1, 1) := by decide +kernel
theorem dX2_borrowOrJoin_25 : decode cX2_borrowOrJoin 25 = .ok (.isub, 1) := by decide +kernel
theorem dX2_borrowOrJoin_26 : decode cX2_borrowOrJoin 26 = .ok (.invokevirtual 23, 3) := by decide +kernel
theorem dX2_borrowOrJoin_29 : decode cX2_borrowOrJoin 29 = .ok (.iconst 3, 1) := by decide +kernel
theorem dX2_borrowOrJoin_30 : decode cX2_borrowOrJoin 30 = .ok (.if_icmp .lt 14, 3) := by decide +kernel
theorem dX2_borrowOrJoin_33 : decode cX2_borrowOrJoin 33 = .ok (.aload_n 0, 1) := by decide +kernel
theorem dX2_borrowOrJoin_34 : decode cX2_borrowOrJoin 34 = .ok (.iload_n 1, 1) := by decide +kernel
theorem dX2_borrowOrJoin_35 : decode cX2_borrowOrJoin 35 = .ok (.iconst 1, 1) := by decide +kernel
theorem dX2_borrowOrJoin_36 : decode cX2_borrowOrJoin 36 = .ok (.isub, 1) := by decide +kernel
theorem dX2_borrowOrJoin_37 : decode cX2_borrowOrJoin 37 = .ok (.iload_n 1, 1) := by decide +kernel
theorem dX2_borrowOrJoin_38 : decode cX2_borrowOrJoin 38 = .ok (.invokevirtual 34, 3) := by decide +kernel
theorem dX2_borrowOrJoin_41 : decode cX2_borrowOrJoin 41 = .ok (.goto 32, 3) := by decide +kernel
theorem dX2_borrowOrJoin_44 : decode cX2_borrowOrJoin 44 = .ok (.aload_n 0, 1) := by decide +kernel
theorem dX2_borrowOrJoin_45 : decode cX2_borrowOrJoin 45 = .ok (.iload_n 1, 1) := by decide +kernel
theorem dX2_borrowOrJoin_46 : decode cX2_borrowOrJoin 46 = .ok (.iconst 1, 1) := by decide +kernel
theorem dX2_borrowOrJoin_47 : decode cX2_borrowOrJoin 47 = .ok (.iadd, 1) := by decide +kernel
theorem dX2_borrowOrJoin_48 : decode cX2_borrowOrJoin 48 = .ok (.invokevirtual 19, 3) := by decide +kernel
theorem dX2_borrowOrJoin_51 : decode cX2_borrowOrJoin 51 = .ok (.ifCond .eq 14, 3) := by decide +kernel
theorem dX2_borrowOrJoin_54 : decode cX2_borrowOrJoin 54 = .ok (.aload_n 0, 1) := by decide +kernel
theorem dX2_borrowOrJoin_55 : decode cX2_borrowOrJoin 55 = .ok (.iload_n 1, 1) := by decide +kernel
theorem dX2_borrowOrJoin_56 : decode cX2_borrowOrJoin 56 = .ok (.iload_n 1, 1) := by decide +kernel
theorem dX2_borrowOrJoin_57 : decode cX2_borrowOrJoin 57 = .ok (.iconst 1, 1) := by decide +kernel
theorem dX2_borrowOrJoin_58 : decode cX2_borrowOrJoin 58 = .ok (.iadd, 1) := by decide +kernel
theorem dX2_borrowOrJoin_59 : decode cX2_borrowOrJoin 59 = .ok (.invokevirtual 34, 3) := by decide +kernel
theorem dX2_borrowOrJoin_62 : decode cX2_borrowOrJoin 62 = .ok (.goto 11, 3) := by decide +kernel
theorem dX2_borrowOrJoin_65 : decode cX2_borrowOrJoin 65 = .ok (.aload_n 0, 1) := by decide +kernel
theorem dX2_borrowOrJoin_66 : decode cX2_borrowOrJoin 66 = .ok (.iload_n 1, 1) := by decide +kernel
theorem dX2_borrowOrJoin_67 : decode cX2_borrowOrJoin 67 = .ok (.iload_n 1, 1) := by decide +kernel
theorem dX2_borrowOrJoin_68 : decode cX2_borrowOrJoin 68 = .ok (.iconst 1, 1) := by decide +kernel
theorem dX2_borrowOrJoin_69 : decode cX2_borrowOrJoin 69 = .ok (.isub, 1) := by decide +kernel
theorem dX2_borrowOrJoin_70 : decode cX2_borrowOrJoin 70 = .ok (.invokevirtual 34, 3) := by decide +kernel
theorem dX2_borrowOrJoin_73 : decode cX2_borrowOrJoin 73 = .ok (.return_, 1) := by decide +kernel
set_option maxRecDepth 20000 in
theorem ggX2_remove_X2_has : GoodIn wsX2_remove wsX2_has := goodIn_r _ [7, 1, 2, 8, 9] (by decide +kernel) (by decide +kernel)
set_option maxRecDepth 20000 in
theorem gX2_remove_X2_has : GoodIn wsX2_remove (wsV RX2 19 RX2 yX2_has wsX2_has) := goodIn_app (goodIn_of _ (by decide +kernel)) ggX2_remove_X2_has
theorem dX2_remove_0 : decode cX2_remove 0 = .ok (.aload_n 0, 1) := by decide +kernel
theorem dX2_remove_1 : decode cX2_remove 1 = .ok (.iload_n 1, 1) := by decide +kernel
theorem dX2_remove_2 : decode cX2_remove 2 = .ok (.invokevirtual 19, 3) := by decide +kernel
theorem dX2_remove_5 : decode cX2_remove 5 = .ok (.ifCond .ne 4, 3) := by decide +kernel
theorem dX2_remove_8 : decode cX2_remove 8 = .ok (.return_, 1) := by decide +kernel
theorem dX2_remove_9 : decode cX2_remove 9 = .ok (.aload_n 0, 1) := by decide +kernel
theorem dX2_remove_10 : decode cX2_remove 10 = .ok (.dup, 1) := by decide +kernel
theorem dX2_remove_11 : decode cX2_remove 11 = .ok (.getfield 15, 3) := by decide +kernel
theorem dX2_remove_14 : decode cX2_remove 14 = .ok (.iconst 1, 1) := by decide +kernel
theorem dX2_remove_15 : decode cX2_remove 15 = .ok (.isub, 1) := by decide +kernel
theorem dX2_remove_16 : decode cX2_remove 16 = .ok (.putfield 15, 3) := by decide +kernel
theorem dX2_remove_19 : decode cX2_remove 19 = .ok (.iload_n 1, 1) := by decide +kernel
theorem dX2_remove_20 : decode cX2_remove 20 = .ok (.istore_n 2, 1) := by decide +kernel
theorem dX2_remove_21 : decode cX2_remove 21 = .ok (.iload_n 2, 1) := by decide +kernel
theorem dX2_remove_22 : decode cX2_remove 22 = .ok (.aload_n 0, 1) := by decide +kernel
theorem dX2_remove_23 : decode cX2_remove 23 = .ok (.getfield 15, 3) := by decide +kernel
theorem dX2_remove_26 : decode cX2_remove 26 = .ok (.if_icmp .ge 23, 3) := by decide +kernel
theorem dX2_remove_29 : decode cX2_remove 29 = .ok (.aload_n 0, 1) := by decide +kernel
theorem dX2_remove_30 : decode cX2_remove 30 = .ok (.getfield 9, 3) := by decide +kernel
theorem dX2_remove_33 : decode cX2_remove 33 = .ok (.iload_n 2, 1) := by decide +kernel
theorem dX2_remove_34 : decode cX2_remove 34 = .ok (.aload_n 0, 1) := by decide +kernel
theorem dX2_remove_35 : decode cX2_remove 35 = .ok (.getfield 9, 3) := by decide +kernel
theorem dX2_remove_38 : decode cX2_remove 38 = .ok (.iload_n 2, 1) := by decide +kernel
theorem dX2_remove_39 : decode cX2_remove 39 = .ok (.iconst 1, 1) := by decide +kernel
theorem dX2_remove_40 : decode cX2_remove 40 = .ok (.iadd, 1) := by decide +kernel
theorem dX2_remove_41 : decode cX2_remove 41 = .ok (.iaload, 1) := by decide +kernel
theorem dX2_remove_42 : decode cX2_remove 42 = .ok (.iastore, 1) := by decide +kernel
theorem dX2_remove_43 : decode cX2_remove 43 = .ok (.iinc 2 1, 3) := by decide +kernel
theorem dX2_remove_46 : decode cX2_remove 46 = .ok (.goto (-25), 3) := by decide +kernel
theorem dX2_remove_49 : decode cX2_remove 49 = .ok (.return_, 1) := by decide +kernel
set_option maxRecDepth 20000 in
theorem ggX3_init_X1_init : GoodIn wsX3_init wsX1_init := goodIn_r _ [16, 17, 2, 3, 18, 19, 24, 25] (by decide +kernel) (by decide +kernel)
set_option maxRecDepth 20000 in
theorem gX3_init_X1_init_n9 : GoodIn wsX3_init (wsX1_init) := ggX3_init_X1_init
set_option maxRecDepth 20000 in
theorem ggX3_init_X2_init : GoodIn wsX3_init wsX2_init := goodIn_r _ [21, 22, 2, 3, 12, 23, 33, 34] (by decide +kernel) (by decide +kernel)
set_option maxRecDepth 20000 in
theorem gX3_init_X2_init_n18 : GoodIn wsX3_init (wsX2_init) := ggX3_init_X2_init
theorem dX3_init_0 : decode cX3_init 0 = .ok (.aload_n 0, 1) := by decide +kernel
theorem dX3_init_1 : decode cX3_init 1 = .ok (.invokespecial 1, 3) := by decide +kernel
theorem dX3_init_4 : decode cX3_init 4 = .ok (.aload_n 0, 1) := by decide +kernel
theorem dX3_init_5 : decode cX3_init 5 = .ok (.new 7, 3) := by decide +kernel
theorem dX3_init_8 : decode cX3_init 8 = .ok (.dup, 1) := by decide +kernel
theorem dX3_init_9 : decode cX3_init 9 = .ok (.invokespecial 9, 3) := by decide +kernel
theorem dX3_init_12 : decode cX3_init 12 = .ok (.putfield 10, 3) := by decide +kernel
theorem dX3_init_15 : decode cX3_init 15 = .ok (.aload_n 0, 1) := by decide +kernel
theorem dX3_init_16 : decode cX3_init 16 = .ok (.new 16, 3) := by decide +kernel
theorem dX3_init_19 : decode cX3_init 19 = .ok (.dup, 1) := by decide +kernel
theorem dX3_init_20 : decode cX3_init 20 = .ok (.invokespecial 18, 3) := by decide +kernel
theorem dX3_init_23 : decode cX3_init 23 = .ok (.putfield 19, 3) := by decide +kernel
theorem dX3_init_26 : decode cX3_init 26 = .ok (.aload_n 0, 1) := by decide +kernel
theorem dX3_init_27 : decode cX3_init 27 = .ok (.iconst 4, 1) := by decide +kernel
theorem dX3_init_28 : decode cX3_init 28 = .ok (.newarray .int, 2) := by decide +kernel
theorem dX3_init_30 : decode cX3_init 30 = .ok (.dup, 1) := by decide +kernel
theorem dX3_init_31 : decode cX3_init 31 = .ok (.iconst 0, 1) := by decide +kernel
theorem dX3_init_32 : decode cX3_init 32 = .ok (.iconst (-1), 1) := by decide +kernel
theorem dX3_init_33 : decode cX3_init 33 = .ok (.iastore, 1) := by decide +kernel
theorem dX3_init_34 : decode cX3_init 34 = .ok (.dup, 1) := by decide +kernel
theorem dX3_init_35 : decode cX3_init 35 = .ok (.iconst 1, 1) := by decide +kernel
theorem dX3_init_36 : decode cX3_init 36 = .ok (.iconst (-1), 1) := by decide +kernel
theorem dX3_init_37 : decode cX3_init 37 = .ok (.iastore, 1) := by decide +kernel
theorem dX3_init_38 : decode cX3_init 38 = .ok (.dup, 1) := by decide +kernel
theorem dX3_init_39 : decode cX3_init 39 = .ok (.iconst 2, 1) := by decide +kernel
theorem dX3_init_40 : decode cX3_init 40 = .ok (.iconst (-1), 1) := by decide +kernel
theorem dX3_init_41 : decode cX3_init 41 = .ok (.iastore, 1) := by decide +kernel
theorem dX3_init_42 : decode cX3_init 42 = .ok (.dup, 1) := by decide +kernel
theorem dX3_init_43 : decode cX3_init 43 = .ok (.iconst 3, 1) := by decide +kernel
theorem dX3_init_44 : decode cX3_init 44 = .ok (.iconst (-1), 1) := by decide +kernel
theorem dX3_init_45 : decode cX3_init 45 = .ok (.iastore, 1) := by decide +kernel
theorem dX3_init_46 : decode cX3_init 46 = .ok (.putfield 23, 3) := by decide +kernel
theorem dX3_init_49 : decode cX3_init 49 = .ok (.aload_n 0, 1) := by decide +kernel
theorem dX3_init_50 : decode cX3_init 50 = .ok (.iconst (-1), 1) := by decide +kernel
theorem dX3_init_51 : decode cX3_init 51 = .ok (.putfield 27, 3) := by decide +kernel
theorem dX3_init_54 : decode cX3_init 54 = .ok (.return_, 1) := by decide +kernel
set_option maxRecDepth 20000 in
theorem ggX3_put_X3_requireCase : GoodIn wsX3_put wsX3_requireCase := goodIn_ca (goodIn_r _ [14, 1, 2, 15, 16, 13, 17] (by decide +kernel) (by decide +kernel)) (goodIn_sub (fun _ h => List.mem_cons_of_mem _ (List.mem_append_left _ (List.mem_append_right _ h))) (by decide +kernel))
set_option maxRecDepth 20000 in
theorem gX3_put_X3_requireCase : GoodIn wsX3_put (va_wsS RX3 31 yX3_requireCase wsX3_requireCase) := goodIn_app (goodIn_of _ (by decide +kernel)) ggX3_put_X3_requireCase
set_option maxRecDepth 20000 in
theorem ggX3_put_X3_isIn : GoodIn wsX3_put wsX3_isIn := goodIn_r _ [17] (by decide +kernel) (by decide +kernel)
set_option maxRecDepth 20000 in
theorem gX3_put_X3_isIn : GoodIn wsX3_put (va_wsS RX3 35 yX3_isIn wsX3_isIn) := goodIn_app (goodIn_of _ (by decide +kernel)) ggX3_put_X3_isIn
set_option maxRecDepth 20000 in
theorem ggX3_put_X1_find : GoodIn wsX3_put wsX1_find := goodIn_r _ [22, 23, 24, 25, 21, 26, 27, 28, 29, 30, 31, 32, 33, 34, 35, 36, 37, 38, 39, 40, 41, 110, 111, 105, 106, 107, 108, 109] (by decide +kernel) (by decide +kernel)
set_option maxRecDepth 20000 in
theorem gX3_put_X1_find : GoodIn wsX3_put (wsV RX3 46 RX1 yX1_find wsX1_find) := goodIn_app (goodIn_of _ (by decide +kernel)) ggX3_put_X1_find
set_option maxRecDepth 20000 in
theorem ggX3_put_X1_count : GoodIn wsX3_put wsX1_count := goodIn_r _ [45, 31, 110, 111] (by decide +kernel) (by decide +kernel)
set_option maxRecDepth 20000 in
theorem gX3_put_X1_count : GoodIn wsX3_put (wsV RX3 50 RX1 yX1_count wsX1_count) := goodIn_app (goodIn_of _ (by decide +kernel)) ggX3_put_X1_count
