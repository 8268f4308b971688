set_option maxRecDepth 20000 in
theorem ggX3_takeOut_X1_remove : GoodIn wsX3_takeOut wsX1_remove := goodIn_r _ [39, 40, 41, 42, 43, 44, 38, 45, 59, 60] (by decide +kernel) (by decide +kernel)
set_option maxRecDepth 20000 in
theorem gX3_takeOut_X1_remove : GoodIn wsX3_takeOut (wsV RX3 177 RX1 yX1_remove wsX1_remove) := goodIn_app (goodIn_of _ (by decide +kernel)) ggX3_takeOut_X1_remove
set_option maxRecDepth 20000 in
theorem ggX3_takeOut_X2_count : GoodIn wsX3_takeOut wsX2_count := goodIn_r _ [49, 9, 57, 58] (by decide +kernel) (by decide +kernel)
set_option maxRecDepth 20000 in
theorem gX3_takeOut_X2_count : GoodIn wsX3_takeOut (wsV RX3 87 RX2 yX2_count wsX2_count) := goodIn_app (goodIn_of _ (by decide +kernel)) ggX3_takeOut_X2_count
theorem dX3_takeOut_0 : decode cX3_takeOut 0 = .ok (.aload_n 0, 1) := by decide +kernel
theorem dX3_takeOut_1 : decode cX3_takeOut 1 = .ok (.getfield 19, 3) := by decide +kernel
theorem dX3_takeOut_4 : decode cX3_takeOut 4 = .ok (.aload_n 0, 1) := by decide +kernel
theorem dX3_takeOut_5 : decode cX3_takeOut 5 = .ok (.getfield 19, 3) := by decide +kernel
theorem dX3_takeOut_8 : decode cX3_takeOut 8 = .ok (.iload_n 1, 1) := by decide +kernel
theorem dX3_takeOut_9 : decode cX3_takeOut 9 = .ok (.invokevirtual 152, 3) := by decide +kernel
theorem dX3_takeOut_12 : decode cX3_takeOut 12 = .ok (.invokevirtual 174, 3) := by decide +kernel
theorem dX3_takeOut_15 : decode cX3_takeOut 15 = .ok (.aload_n 0, 1) := by decide +kernel
theorem dX3_takeOut_16 : decode cX3_takeOut 16 = .ok (.getfield 10, 3) := by decide +kernel
theorem dX3_takeOut_19 : decode cX3_takeOut 19 = .ok (.iload_n 1, 1) := by decide +kernel
theorem dX3_takeOut_20 : decode cX3_takeOut 20 = .ok (.invokevirtual 177, 3) := by decide +kernel
theorem dX3_takeOut_23 : decode cX3_takeOut 23 = .ok (.aload_n 0, 1) := by decide +kernel
theorem dX3_takeOut_24 : decode cX3_takeOut 24 = .ok (.getfield 27, 3) := by decide +kernel
theorem dX3_takeOut_27 : decode cX3_takeOut 27 = .ok (.aload_n 0, 1) := by decide +kernel
theorem dX3_takeOut_28 : decode cX3_takeOut 28 = .ok (.getfield 19, 3) := by decide +kernel
theorem dX3_takeOut_31 : decode cX3_takeOut 31 = .ok (.invokevirtual 87, 3) := by decide +kernel
theorem dX3_takeOut_34 : decode cX3_takeOut 34 = .ok (.if_icmp .lt 8, 3) := by decide +kernel
theorem dX3_takeOut_37 : decode cX3_takeOut 37 = .ok (.aload_n 0, 1) := by decide +kernel
theorem dX3_takeOut_38 : decode cX3_takeOut 38 = .ok (.iconst (-1), 1) := by decide +kernel
theorem dX3_takeOut_39 : decode cX3_takeOut 39 = .ok (.putfield 27, 3) := by decide +kernel
theorem dX3_takeOut_42 : decode cX3_takeOut 42 = .ok (.return_, 1) := by decide +kernel
set_option maxRecDepth 20000 in
theorem ggX3_keepOverdue_X1_count : GoodIn wsX3_keepOverdue wsX1_count := goodIn_r _ [9, 10, 85, 86] (by decide +kernel) (by decide +kernel)
set_option maxRecDepth 20000 in
theorem gX3_keepOverdue_X1_count : GoodIn wsX3_keepOverdue (wsV RX3 50 RX1 yX1_count wsX1_count) := goodIn_app (goodIn_of _ (by decide +kernel)) ggX3_keepOverdue_X1_count
set_option maxRecDepth 20000 in
theorem ggX3_keepOverdue_X1_bailAt : GoodIn wsX3_keepOverdue wsX1_bailAt := goodIn_r _ [14, 10, 15, 85, 86] (by decide +kernel) (by decide +kernel)
set_option maxRecDepth 20000 in
theorem gX3_keepOverdue_X1_bailAt : GoodIn wsX3_keepOverdue (wsV RX3 113 RX1 yX1_bailAt wsX1_bailAt) := goodIn_app (goodIn_of _ (by decide +kernel)) ggX3_keepOverdue_X1_bailAt
set_option maxRecDepth 20000 in
theorem ggX3_keepOverdue_X0_isOverdue : GoodIn wsX3_keepOverdue wsX0_isOverdue := goodIn_r _ [20, 21, 22, 23, 24, 19, 25, 80, 81, 82, 83, 84] (by decide +kernel) (by decide +kernel)
set_option maxRecDepth 20000 in
theorem gX3_keepOverdue_X0_isOverdue : GoodIn wsX3_keepOverdue (wsV RX3 180 RX0 yX0_isOverdue wsX0_isOverdue) := goodIn_app (goodIn_of _ (by decide +kernel)) ggX3_keepOverdue_X0_isOverdue
set_option maxRecDepth 20000 in
theorem ggX3_keepOverdue_X3_takeOut : GoodIn wsX3_keepOverdue wsX3_takeOut := goodIn_r _ [30, 31, 1, 32, 33, 34, 35, 36, 37, 38, 39, 40, 41, 42, 43, 44, 45, 46, 47, 48, 49, 50, 51, 52, 53, 54, 55, 56, 57, 58, 59, 60, 61, 62, 63, 64, 65, 66, 8, 67, 10, 15, 68, 12, 13, 14, 69, 70, 71, 72, 73, 74, 75, 76, 77, 78, 79, 87, 88, 85, 86] (by decide +kernel) (by decide +kernel)
set_option maxRecDepth 20000 in
theorem gX3_keepOverdue_X3_takeOut : GoodIn wsX3_keepOverdue (wsV RX3 103 RX3 yX3_takeOut wsX3_takeOut) := goodIn_app (goodIn_of _ (by decide +kernel)) ggX3_keepOverdue_X3_takeOut
theorem dX3_keepOverdue_0 : decode cX3_keepOverdue 0 = .ok (.iconst 0, 1) := by decide +kernel
theorem dX3_keepOverdue_1 : decode cX3_keepOverdue 1 = .ok (.istore_n 1, 1) := by decide +kernel
theorem dX3_keepOverdue_2 : decode cX3_keepOverdue 2 = .ok (.iconst 0, 1) := by decide +kernel
theorem dX3_keepOverdue_3 : decode cX3_keepOverdue 3 = .ok (.istore_n 2, 1) := by decide +kernel
theorem dX3_keepOverdue_4 : decode cX3_keepOverdue 4 = .ok (.aload_n 0, 1) := by decide +kernel
theorem dX3_keepOverdue_5 : decode cX3_keepOverdue 5 = .ok (.getfield 10, 3) := by decide +kernel
theorem dX3_keepOverdue_8 : decode cX3_keepOverdue 8 = .ok (.invokevirtual 50, 3) := by decide +kernel
theorem dX3_keepOverdue_11 : decode cX3_keepOverdue 11 = .ok (.istore_n 3, 1) := by decide +kernel
theorem dX3_keepOverdue_12 : decode cX3_keepOverdue 12 = .ok (.iload_n 3, 1) := by decide +kernel
theorem dX3_keepOverdue_13 : decode cX3_keepOverdue 13 = .ok (.ifCond .le 64, 3) := by decide +kernel
theorem dX3_keepOverdue_16 : decode cX3_keepOverdue 16 = .ok (.aload_n 0, 1) := by decide +kernel
theorem dX3_keepOverdue_17 : decode cX3_keepOverdue 17 = .ok (.getfield 10, 3) := by decide +kernel
theorem dX3_keepOverdue_20 : decode cX3_keepOverdue 20 = .ok (.iload_n 2, 1) := by decide +kernel
theorem dX3_keepOverdue_21 : decode cX3_keepOverdue 21 = .ok (.invokevirtual 113, 3) := by decide +kernel
theorem dX3_keepOverdue_24 : decode cX3_keepOverdue 24 = .ok (.astore 4, 2) := by decide +kernel
theorem dX3_keepOverdue_26 : decode cX3_keepOverdue 26 = .ok (.aload 4, 2) := by decide +kernel
theorem dX3_keepOverdue_28 : decode cX3_keepOverdue 28 = .ok (.ifnull 40, 3) := by decide +kernel
theorem dX3_keepOverdue_31 : decode cX3_keepOverdue 31 = .ok (.aload 4, 2) := by decide +kernel
theorem dX3_keepOverdue_33 : decode cX3_keepOverdue 33 = .ok (.aload_n 0, 1) := by decide +kernel
theorem dX3_keepOverdue_34 : decode cX3_keepOverdue 34 = .ok (.getfield 77, 3) := by decide +kernel
theorem dX3_keepOverdue_37 : decode cX3_keepOverdue 37 = .ok (.invokevirtual 180, 3) := by decide +kernel
theorem dX3_keepOverdue_40 : decode cX3_keepOverdue 40 = .ok (.ifCond .eq 28, 3) := by decide +kernel
theorem dX3_keepOverdue_43 : decode cX3_keepOverdue 43 = .ok (.aload_n 0, 1) := by decide +kernel
theorem dX3_keepOverdue_44 : decode cX3_keepOverdue 44 = .ok (.dup, 1) := by decide +kernel
theorem dX3_keepOverdue_45 : decode cX3_keepOverdue 45 = .ok (.getfield 125, 3) := by decide +kernel
theorem dX3_keepOverdue_48 : decode cX3_keepOverdue 48 = .ok (.aload 4, 2) := by decide +kernel
theorem dX3_keepOverdue_50 : decode cX3_keepOverdue 50 = .ok (.getfield 97, 3) := by decide +kernel
theorem dX3_keepOverdue_53 : decode cX3_keepOverdue 53 = .ok (.iadd, 1) := by decide +kernel
theorem dX3_keepOverdue_54 : decode cX3_keepOverdue 54 = .ok (.putfield 125, 3) := by decide +kernel
theorem dX3_keepOverdue_57 : decode cX3_keepOverdue 57 = .ok (.aload_n 0, 1) := by decide +kernel
theorem dX3_keepOverdue_58 : decode cX3_keepOverdue 58 = .ok (.iload_n 2, 1) := by decide +kernel
theorem dX3_keepOverdue_59 : decode cX3_keepOverdue 59 = .ok (.invokevirtual 103, 3) := by decide +kernel
theorem dX3_keepOverdue_62 : decode cX3_keepOverdue 62 = .ok (.iinc 1 1, 3) := by decide +kernel
theorem dX3_keepOverdue_65 : decode cX3_keepOverdue 65 = .ok (.goto 6, 3) := by decide +kernel
theorem dX3_keepOverdue_68 : decode cX3_keepOverdue 68 = .ok (.iinc 2 1, 3) := by decide +kernel
theorem dX3_keepOverdue_71 : decode cX3_keepOverdue 71 = .ok (.iinc 3 (-1), 3) := by decide +kernel
theorem dX3_keepOverdue_74 : decode cX3_keepOverdue 74 = .ok (.goto (-62), 3) := by decide +kernel
theorem dX3_keepOverdue_77 : decode cX3_keepOverdue 77 = .ok (.iload_n 1, 1) := by decide +kernel
theorem dX3_keepOverdue_78 : decode cX3_keepOverdue 78 = .ok (.ireturn, 1) := by decide +kernel
set_option maxRecDepth 20000 in
theorem ggX3_sweepOn_X2_has : GoodIn wsX3_sweepOn wsX2_has := goodIn_r _ [7, 8, 9, 30, 31] (by decide +kernel) (by decide +kernel)
set_option maxRecDepth 20000 in
theorem gX3_sweepOn_X2_has : GoodIn wsX3_sweepOn (wsV RX3 135 RX2 yX2_has wsX2_has) := goodIn_app (goodIn_of _ (by decide +kernel)) ggX3_sweepOn_X2_has
set_option maxRecDepth 20000 in
theorem ggX3_sweepOn_X2_sizeOf : GoodIn wsX3_sweepOn wsX2_sizeOf := goodIn_r _ [13, 9, 14, 4, 5, 6, 7, 8, 30, 31] (by decide +kernel) (by decide +kernel)
set_option maxRecDepth 20000 in
theorem gX3_sweepOn_X2_sizeOf : GoodIn wsX3_sweepOn (wsV RX3 66 RX2 yX2_sizeOf wsX2_sizeOf) := goodIn_app (goodIn_of _ (by decide +kernel)) ggX3_sweepOn_X2_sizeOf
set_option maxRecDepth 20000 in
theorem ggX3_sweepOn_X2_move : GoodIn wsX3_sweepOn wsX2_move := goodIn_r _ [18, 9, 14, 4, 5, 6, 7, 8, 19, 20, 21, 22, 30, 31] (by decide +kernel) (by decide +kernel)
set_option maxRecDepth 20000 in
theorem gX3_sweepOn_X2_move : GoodIn wsX3_sweepOn (wsV RX3 183 RX2 yX2_move wsX2_move) := goodIn_app (goodIn_of _ (by decide +kernel)) ggX3_sweepOn_X2_move
theorem dX3_sweepOn_0 : decode cX3_sweepOn 0 = .ok (.aload_n 0, 1) := by decide +kernel
theorem dX3_sweepOn_1 : decode cX3_sweepOn 1 = .ok (.getfield 19, 3) := by decide +kernel
theorem dX3_sweepOn_4 : decode cX3_sweepOn 4 = .ok (.aload_n 0, 1) := by decide +kernel
theorem dX3_sweepOn_5 : decode cX3_sweepOn 5 = .ok (.getfield 27, 3) := by decide +kernel
theorem dX3_sweepOn_8 : decode cX3_sweepOn 8 = .ok (.iconst 1, 1) := by decide +kernel
theorem dX3_sweepOn_9 : decode cX3_sweepOn 9 = .ok (.iadd, 1) := by decide +kernel
theorem dX3_sweepOn_10 : decode cX3_sweepOn 10 = .ok (.invokevirtual 135, 3) := by decide +kernel
theorem dX3_sweepOn_13 : decode cX3_sweepOn 13 = .ok (.ifCond .ne 10, 3) := by decide +kernel
theorem dX3_sweepOn_16 : decode cX3_sweepOn 16 = .ok (.aload_n 0, 1) := by decide +kernel
theorem dX3_sweepOn_17 : decode cX3_sweepOn 17 = .ok (.iconst (-1), 1) := by decide +kernel
theorem dX3_sweepOn_18 : decode cX3_sweepOn 18 = .ok (.putfield 27, 3) := by decide +kernel
theorem dX3_sweepOn_21 : decode cX3_sweepOn 21 = .ok (.iconst 0, 1) := by decide +kernel
theorem dX3_sweepOn_22 : decode cX3_sweepOn 22 = .ok (.ireturn, 1) := by decide +kernel
theorem dX3_sweepOn_23 : decode cX3_sweepOn 23 = .ok (.aload_n 0, 1) := by decide +kernel
theorem dX3_sweepOn_24 : decode cX3_sweepOn 24 = .ok (.getfield 19, 3) := by decide +kernel
theorem dX3_sweepOn_27 : decode cX3_sweepOn 27 = .ok (.aload_n 0, 1) := by decide +kernel
theorem dX3_sweepOn_28 : decode cX3_sweepOn 28 = .ok (.getfield 27, 3) := by decide +kernel
theorem dX3_sweepOn_31 : decode cX3_sweepOn 31 = .ok (.invokevirtual 66, 3) := by decide +kernel
theorem dX3_sweepOn_34 : decode cX3_sweepOn 34 = .ok (.iconst 4, 1) := by decide +kernel
theorem dX3_sweepOn_35 : decode cX3_sweepOn 35 = .ok (.if_icmp .lt 15, 3) := by decide +kernel
theorem dX3_sweepOn_38 : decode cX3_sweepOn 38 = .ok (.aload_n 0, 1) := by decide +kernel
theorem dX3_sweepOn_39 : decode cX3_sweepOn 39 = .ok (.dup, 1) := by decide +kernel
theorem dX3_sweepOn_40 : decode cX3_sweepOn 40 = .ok (.getfield 27, 3) := by decide +kernel
theorem dX3_sweepOn_43 : decode cX3_sweepOn 43 = .ok (.iconst 1, 1) := by decide +kernel
theorem dX3_sweepOn_44 : decode cX3_sweepOn 44 = .ok (.iadd, 1) := by decide +kernel
theorem dX3_sweepOn_45 : decode cX3_sweepOn 45 = .ok (.putfield 27, 3) := by decide +kernel
theorem dX3_sweepOn_48 : decode cX3_sweepOn 48 = .ok (.iconst 0, 1) := by decide +kernel
theorem dX3_sweepOn_49 : decode cX3_sweepOn 49 = .ok (.ireturn, 1) := by decide +kernel
theorem dX3_sweepOn_50 : decode cX3_sweepOn 50 = .ok (.aload_n 0, 1) := by decide +kernel
theorem dX3_sweepOn_51 : decode cX3_sweepOn 51 = .ok (.getfield 19, 3) := by decide +kernel
theorem dX3_sweepOn_54 : decode cX3_sweepOn 54 = .ok (.aload_n 0, 1) := by decide +kernel
theorem dX3_sweepOn_55 : decode cX3_sweepOn 55 = .ok (.getfield 27, 3) := by decide +kernel
theorem dX3_sweepOn_58 : decode cX3_sweepOn 58 = .ok (.iconst 1, 1) := by decide +kernel
theorem dX3_sweepOn_59 : decode cX3_sweepOn 59 = .ok (.iadd, 1) := by decide +kernel
theorem dX3_sweepOn_60 : decode cX3_sweepOn 60 = .ok (.aload_n 0, 1) := by decide +kernel
theorem dX3_sweepOn_61 : decode cX3_sweepOn 61 = .ok (.getfield 27, 3) := by decide +kernel
theorem dX3_sweepOn_64 : decode cX3_sweepOn 64 = .ok (.invokevirtual 183, 3) := by decide +kernel
theorem dX3_sweepOn_67 : decode cX3_sweepOn 67 = .ok (.iconst 1, 1) := by decide +kernel
theorem dX3_sweepOn_68 : decode cX3_sweepOn 68 = .ok (.ireturn, 1) := by decide +kernel
theorem dX4_init_0 : decode cX4_init 0 = .ok (.aload_n 0, 1) := by decide +kernel
theorem dX4_init_1 : decode cX4_init 1 = .ok (.invokespecial 1, 3) := by decide +kernel
theorem dX4_init_4 : decode cX4_init 4 = .ok (.aload_n 0, 1) := by decide +kernel
theorem dX4_init_5 : decode cX4_init 5 = .ok (.bipush 80, 2) := by decide +kernel
theorem dX4_init_7 : decode cX4_init 7 = .ok (.newarray .int, 2) := by decide +kernel
theorem dX4_init_9 : decode cX4_init 9 = .ok (.putfield 7, 3) := by decide +kernel
theorem dX4_init_12 : decode cX4_init 12 = .ok (.aload_n 0, 1) := by decide +kernel
theorem dX4_init_13 : decode cX4_init 13 = .ok (.bipush 80, 2) := by decide +kernel
theorem dX4_init_15 : decode cX4_init 15 = .ok (.newarray .int, 2) := by decide +kernel
theorem dX4_init_17 : decode cX4_init 17 = .ok (.putfield 13, 3) := by decide +kernel
theorem dX4_init_20 : decode cX4_init 20 = .ok (.aload_n 0, 1) := by decide +kernel
theorem dX4_init_21 : decode cX4_init 21 = .ok (.bipush 80, 2) := by decide +kernel
theorem dX4_init_23 : decode cX4_init 23 = .ok (.newarray .int, 2) := by decide +kernel
theorem dX4_init_25 : decode cX4_init 25 = .ok (.putfield 16, 3) := by decide +kernel
theorem dX4_init_28 : decode cX4_init 28 = .ok (.aload_n 0, 1) := by decide +kernel
theorem dX4_init_29 : decode cX4_init 29 = .ok (.bipush 80, 2) := by decide +kernel
theorem dX4_init_31 : decode cX4_init 31 = .ok (.newarray .int, 2) := by decide +kernel
theorem dX4_init_33 : decode cX4_init 33 = .ok (.putfield 19, 3) := by decide +kernel
theorem dX4_init_36 : decode cX4_init 36 = .ok (.aload_n 0, 1) := by decide +kernel
theorem dX4_init_37 : decode cX4_init 37 = .ok (.bipush 80, 2) := by decide +kernel
theorem dX4_init_39 : decode cX4_init 39 = .ok (.newarray .int, 2) := by decide +kernel
theorem dX4_init_41 : decode cX4_init 41 = .ok (.putfield 22, 3) := by decide +kernel
theorem dX4_init_44 : decode cX4_init 44 = .ok (.aload_n 0, 1) := by decide +kernel
theorem dX4_init_45 : decode cX4_init 45 = .ok (.bipush 80, 2) := by decide +kernel
theorem dX4_init_47 : decode cX4_init 47 = .ok (.newarray .int, 2) := by decide +kernel
theorem dX4_init_49 : decode cX4_init 49 = .ok (.putfield 25, 3) := by decide +kernel
theorem dX4_init_52 : decode cX4_init 52 = .ok (.aload_n 0, 1) := by decide +kernel
theorem dX4_init_53 : decode cX4_init 53 = .ok (.iconst (-1), 1) := by decide +kernel
theorem dX4_init_54 : decode cX4_init 54 = .ok (.putfield 28, 3) := by decide +kernel
theorem dX4_init_57 : decode cX4_init 57 = .ok (.aload_n 0, 1) := by decide +kernel
theorem dX4_init_58 : decode cX4_init 58 = .ok (.iconst 4, 1) := by decide +kernel
theorem dX4_init_59 : decode cX4_init 59 = .ok (.newarray .int, 2) := by decide +kernel
theorem dX4_init_61 : decode cX4_init 61 = .ok (.dup, 1) := by decide +kernel
theorem dX4_init_62 : decode cX4_init 62 = .ok (.iconst 0, 1) := by decide +kernel
theorem dX4_init_63 : decode cX4_init 63 = .ok (.iconst (-1), 1) := by decide +kernel
theorem dX4_init_64 : decode cX4_init 64 = .ok (.iastore, 1) := by decide +kernel
theorem dX4_init_65 : decode cX4_init 65 = .ok (.dup, 1) := by decide +kernel
theorem dX4_init_66 : decode cX4_init 66 = .ok (.iconst 1, 1) := by decide +kernel
theorem dX4_init_67 : decode cX4_init 67 = .ok (.iconst (-1), 1) := by decide +kernel
theorem dX4_init_68 : decode cX4_init 68 = .ok (.iastore, 1) := by decide +kernel
theorem dX4_init_69 : decode cX4_init 69 = .ok (.dup, 1) := by decide +kernel
theorem dX4_init_70 : decode cX4_init 70 = .ok (.iconst 2, 1) := by decide +kernel
theorem dX4_init_71 : decode cX4_init 71 = .ok (.iconst (-1), 1) := by decide +kernel
theorem dX4_init_72 : decode cX4_init 72 = .ok (.iastore, 1) := by decide +kernel
theorem dX4_init_73 : decode cX4_init 73 = .ok (.dup, 1) := by decide +kernel
theorem dX4_init_74 : decode cX4_init 74 = .ok (.iconst 3, 1) := by decide +kernel
theorem dX4_init_75 : decode cX4_init 75 = .ok (.iconst (-1), 1) := by decide +kernel
theorem dX4_init_76 : decode cX4_init 76 = .ok (.iastore, 1) := by decide +kernel
theorem dX4_init_77 : decode cX4_init 77 = .ok (.putfield 32, 3) := by decide +kernel
theorem dX4_init_80 : decode cX4_init 80 = .ok (.return_, 1) := by decide +kernel
theorem dX4_thrown_0 : decode cX4_thrown 0 = .ok (.aload_n 0, 1) := by decide +kernel
theorem dX4_thrown_1 : decode cX4_thrown 1 = .ok (.getfield 35, 3) := by decide +kernel
theorem dX4_thrown_4 : decode cX4_thrown 4 = .ok (.ireturn, 1) := by decide +kernel
theorem dX4_goesWell_0 : decode cX4_goesWell 0 = .ok (.aload_n 0, 1) := by decide +kernel
theorem dX4_goesWell_1 : decode cX4_goesWell 1 = .ok (.iload_n 1, 1) := by decide +kernel
theorem dX4_goesWell_2 : decode cX4_goesWell 2 = .ok (.putfield 35, 3) := by decide +kernel
theorem dX4_goesWell_5 : decode cX4_goesWell 5 = .ok (.iload_n 1, 1) := by decide +kernel
theorem dX4_goesWell_6 : decode cX4_goesWell 6 = .ok (.ifCond .ne 7, 3) := by decide +kernel
theorem dX4_goesWell_9 : decode cX4_goesWell 9 = .ok (.iconst 1, 1) := by decide +kernel
theorem dX4_goesWell_10 : decode cX4_goesWell 10 = .ok (.goto 4, 3) := by decide +kernel
theorem dX4_goesWell_13 : decode cX4_goesWell 13 = .ok (.iconst 0, 1) := by decide +kernel
theorem dX4_goesWell_14 : decode cX4_goesWell 14 = .ok (.ireturn, 1) := by decide +kernel
theorem dX4_in_0 : decode cX4_in 0 = .ok (.iload_n 0, 1) := by decide +kernel
theorem dX4_in_1 : decode cX4_in 1 = .ok (.iload_n 1, 1) := by decide +kernel
theorem dX4_in_2 : decode cX4_in 2 = .ok (.if_icmp .lt 12, 3) := by decide +kernel
theorem dX4_in_5 : decode cX4_in 5 = .ok (.iload_n 0, 1) := by decide +kernel
theorem dX4_in_6 : decode cX4_in 6 = .ok (.iload_n 2, 1) := by decide +kernel
theorem dX4_in_7 : decode cX4_in 7 = .ok (.if_icmp .gt 7, 3) := by decide +kernel
theorem dX4_in_10 : decode cX4_in 10 = .ok (.iconst 1, 1) := by decide +kernel
theorem dX4_in_11 : decode cX4_in 11 = .ok (.goto 4, 3) := by decide +kernel
theorem dX4_in_14 : decode cX4_in 14 = .ok (.iconst 0, 1) := by decide +kernel
theorem dX4_in_15 : decode cX4_in 15 = .ok (.ireturn, 1) := by decide +kernel
set_option maxRecDepth 20000 in
theorem ggX4_isCase_X4_in : GoodIn wsX4_isCase wsX4_in := goodIn_r _ [4] (by decide +kernel) (by decide +kernel)
set_option maxRecDepth 20000 in
theorem gX4_isCase_X4_in : GoodIn wsX4_isCase (va_wsS RX4 38 yX4_in wsX4_in) := goodIn_app (goodIn_of _ (by decide +kernel)) ggX4_isCase_X4_in
theorem dX4_isCase_0 : decode cX4_isCase 0 = .ok (.iload_n 0, 1) := by decide +kernel
theorem dX4_isCase_1 : decode cX4_isCase 1 = .ok (.iconst 0, 1) := by decide +kernel
theorem dX4_isCase_2 : decode cX4_isCase 2 = .ok (.sipush 999, 3) := by decide +kernel
theorem dX4_isCase_5 : decode cX4_isCase 5 = .ok (.invokestatic 38, 3) := by decide +kernel
theorem dX4_isCase_8 : decode cX4_isCase 8 = .ok (.ireturn, 1) := by decide +kernel
theorem dX4_find_0 : decode cX4_find 0 = .ok (.iconst 0, 1) := by decide +kernel
theorem dX4_find_1 : decode cX4_find 1 = .ok (.istore_n 2, 1) := by decide +kernel
theorem dX4_find_2 : decode cX4_find 2 = .ok (.iload_n 2, 1) := by decide +kernel
theorem dX4_find_3 : decode cX4_find 3 = .ok (.aload_n 0, 1) := by decide +kernel
theorem dX4_find_4 : decode cX4_find 4 = .ok (.getfield 42, 3) := by decide +kernel
theorem dX4_find_7 : decode cX4_find 7 = .ok (.if_icmp .ge 21, 3) := by decide +kernel
theorem dX4_find_10 : decode cX4_find 10 = .ok (.aload_n 0, 1) := by decide +kernel
theorem dX4_find_11 : decode cX4_find 11 = .ok (.getfield 7, 3) := by decide +kernel
theorem dX4_find_14 : decode cX4_find 14 = .ok (.iload_n 2, 1) := by decide +kernel
theorem dX4_find_15 : decode cX4_find 15 = .ok (.iaload, 1) := by decide +kernel
theorem dX4_find_16 : decode cX4_find 16 = .ok (.iload_n 1, 1) := by decide +kernel
theorem dX4_find_17 : decode cX4_find 17 = .ok (.if_icmp .ne 5, 3) := by decide +kernel
theorem dX4_find_20 : decode cX4_find 20 = .ok (.iload_n 2, 1) := by decide +kernel
theorem dX4_find_21 : decode cX4_find 21 = .ok (.ireturn, 1) := by decide +kernel
theorem dX4_find_22 : decode cX4_find 22 = .ok (.iinc 2 1, 3) := by decide +kernel
theorem dX4_find_25 : decode cX4_find 25 = .ok (.goto (-23), 3) := by decide +kernel
theorem dX4_find_28 : decode cX4_find 28 = .ok (.iconst (-1), 1) := by decide +kernel
theorem dX4_find_29 : decode cX4_find 29 = .ok (.ireturn, 1) := by decide +kernel
theorem dX4_beginOf_0 : decode cX4_beginOf 0 = .ok (.iconst 0, 1) := by decide +kernel
theorem dX4_beginOf_1 : decode cX4_beginOf 1 = .ok (.istore_n 2, 1) := by decide +kernel
theorem dX4_beginOf_2 : decode cX4_beginOf 2 = .ok (.iconst 0, 1) := by decide +kernel
theorem dX4_beginOf_3 : decode cX4_beginOf 3 = .ok (.istore_n 3, 1) := by decide +kernel
theorem dX4_beginOf_4 : decode cX4_beginOf 4 = .ok (.iload_n 3, 1) := by decide +kernel
theorem dX4_beginOf_5 : decode cX4_beginOf 5 = .ok (.iload_n 1, 1) := by decide +kernel
theorem dX4_beginOf_6 : decode cX4_beginOf 6 = .ok (.if_icmp .ge 18, 3) := by decide +kernel
theorem dX4_beginOf_9 : decode cX4_beginOf 9 = .ok (.iload_n 2, 1) := by decide +kernel
theorem dX4_beginOf_10 : decode cX4_beginOf 10 = .ok (.aload_n 0, 1) := by decide +kernel
theorem dX4_beginOf_11 : decode cX4_beginOf 11 = .ok (.getfield 25, 3) := by decide +kernel
theorem dX4_beginOf_14 : decode cX4_beginOf 14 = .ok (.iload_n 3, 1) := by decide +kernel
theorem dX4_beginOf_15 : decode cX4_beginOf 15 = .ok (.iaload, 1) := by decide +kernel
theorem dX4_beginOf_16 : decode cX4_beginOf 16 = .ok (.iadd, 1) := by decide +kernel
theorem dX4_beginOf_17 : decode cX4_beginOf 17 = .ok (.istore_n 2, 1) := by decide +kernel
theorem dX4_beginOf_18 : decode cX4_beginOf 18 = .ok (.iinc 3 1, 3) := by decide +kernel
theorem dX4_beginOf_21 : decode cX4_beginOf 21 = .ok (.goto (-17), 3) := by decide +kernel
theorem dX4_beginOf_24 : decode cX4_beginOf 24 = .ok (.iload_n 2, 1) := by decide +kernel
theorem dX4_beginOf_25 : decode cX4_beginOf 25 = .ok (.ireturn, 1) := by decide +kernel
theorem dX4_pageAt_0 : decode cX4_pageAt 0 = .ok (.iconst 0, 1) := by decide +kernel
theorem dX4_pageAt_1 : decode cX4_pageAt 1 = .ok (.istore_n 2, 1) := by decide +kernel
theorem dX4_pageAt_2 : decode cX4_pageAt 2 = .ok (.aload_n 0, 1) := by decide +kernel
theorem dX4_pageAt_3 : decode cX4_pageAt 3 = .ok (.getfield 25, 3) := by decide +kernel
theorem dX4_pageAt_6 : decode cX4_pageAt 6 = .ok (.iconst 0, 1) := by decide +kernel
theorem dX4_pageAt_7 : decode cX4_pageAt 7 = .ok (.iaload, 1) := by decide +kernel
theorem dX4_pageAt_8 : decode cX4_pageAt 8 = .ok (.istore_n 3, 1) := by decide +kernel
theorem dX4_pageAt_9 : decode cX4_pageAt 9 = .ok (.iload_n 3, 1) := by decide +kernel
theorem dX4_pageAt_10 : decode cX4_pageAt 10 = .ok (.iload_n 1, 1) := by decide +kernel
theorem dX4_pageAt_11 : decode cX4_pageAt 11 = .ok (.if_icmp .gt 18, 3) := by decide +kernel
theorem dX4_pageAt_14 : decode cX4_pageAt 14 = .ok (.iinc 2 1, 3) := by decide +kernel
theorem dX4_pageAt_17 : decode cX4_pageAt 17 = .ok (.iload_n 3, 1) := by decide +kernel
theorem dX4_pageAt_18 : decode cX4_pageAt 18 = .ok (.aload_n 0, 1) := by decide +kernel
theorem dX4_pageAt_19 : decode cX4_pageAt 19 = .ok (.getfield 25, 3) := by decide +kernel
theorem dX4_pageAt_22 : decode cX4_pageAt 22 = .ok (.iload_n 2, 1) := by decide +kernel
theorem dX4_pageAt_23 : decode cX4_pageAt 23 = .ok (.iaload, 1) := by decide +kernel
theorem dX4_pageAt_24 : decode cX4_pageAt 24 = .ok (.iadd, 1) := by decide +kernel
theorem dX4_pageAt_25 : decode cX4_pageAt 25 = .ok (.istore_n 3, 1) := by decide +kernel
theorem dX4_pageAt_26 : decode cX4_pageAt 26 = .ok (.goto (-17), 3) := by decide +kernel
theorem dX4_pageAt_29 : decode cX4_pageAt 29 = .ok (.iload_n 2, 1) := by decide +kernel
theorem dX4_pageAt_30 : decode cX4_pageAt 30 = .ok (.ireturn, 1) := by decide +kernel
theorem dX4_dropPage_0 : decode cX4_dropPage 0 = .ok (.aload_n 0, 1) := by decide +kernel
theorem dX4_dropPage_1 : decode cX4_dropPage 1 = .ok (.dup, 1) := by decide +kernel
theorem dX4_dropPage_2 : decode cX4_dropPage 2 = .ok (.getfield 45, 3) := by decide +kernel
theorem dX4_dropPage_5 : decode cX4_dropPage 5 = .ok (.iconst 1, 1) := by decide +kernel
theorem dX4_dropPage_6 : decode cX4_dropPage 6 = .ok (.isub, 1) := by decide +kernel
theorem dX4_dropPage_7 : decode cX4_dropPage 7 = .ok (.putfield 45, 3) := by decide +kernel
theorem dX4_dropPage_10 : decode cX4_dropPage 10 = .ok (.iload_n 1, 1) := by decide +kernel
theorem dX4_dropPage_11 : decode cX4_dropPage 11 = .ok (.istore_n 2, 1) := by decide +kernel
theorem dX4_dropPage_12 : decode cX4_dropPage 12 = .ok (.iload_n 2, 1) := by decide +kernel
theorem dX4_dropPage_13 : decode cX4_dropPage 13 = .ok (.aload_n 0, 1) := by decide +kernel
theorem dX4_dropPage_14 : decode cX4_dropPage 14 = .ok (.getfield 45, 3) := by decide +kernel
theorem dX4_dropPage_17 : decode cX4_dropPage 17 = .ok (.if_icmp .ge 23, 3) := by decide +kernel
theorem dX4_dropPage_20 : decode cX4_dropPage 20 = .ok (.aload_n 0, 1) := by decide +kernel
theorem dX4_dropPage_21 : decode cX4_dropPage 21 = .ok (.getfield 25, 3) := by decide +kernel
theorem dX4_dropPage_24 : decode cX4_dropPage 24 = .ok (.iload_n 2, 1) := by decide +kernel
theorem dX4_dropPage_25 : decode cX4_dropPage 25 = .ok (.aload_n 0, 1) := by decide +kernel
theorem dX4_dropPage_26 : decode cX4_dropPage 26 = .ok (.getfield 25, 3) := by decide +kernel
theorem dX4_dropPage_29 : decode cX4_dropPage 29 = .ok (.iload_n 2, 1) := by decide +kernel
theorem dX4_dropPage_30 : decode cX4_dropPage 30 = .ok (.iconst 1, 1) := by decide +kernel
theorem dX4_dropPage_31 : decode cX4_dropPage 31 = .ok (.iadd, 1) := by decide +kernel
theorem dX4_dropPage_32 : decode cX4_dropPage 32 = .ok (.iaload, 1) := by decide +kernel
theorem dX4_dropPage_33 : decode cX4_dropPage 33 = .ok (.iastore, 1) := by decide +kernel
theorem dX4_dropPage_34 : decode cX4_dropPage 34 = .ok (.iinc 2 1, 3) := by decide +kernel
theorem dX4_dropPage_37 : decode cX4_dropPage 37 = .ok (.goto (-25), 3) := by decide +kernel
theorem dX4_dropPage_40 : decode cX4_dropPage 40 = .ok (.return_, 1) := by decide +kernel
set_option maxRecDepth 20000 in
theorem ggX4_pageFor_X4_beginOf : GoodIn wsX4_pageFor wsX4_beginOf := goodIn_r _ [7, 8, 9, 10, 11, 12, 13, 14, 15, 16, 17, 18, 19, 20, 21, 22] (by decide +kernel) (by decide +kernel)
set_option maxRecDepth 20000 in
theorem gX4_pageFor_X4_beginOf : GoodIn wsX4_pageFor (wsV RX4 48 RX4 yX4_beginOf wsX4_beginOf) := goodIn_app (goodIn_of _ (by decide +kernel)) ggX4_pageFor_X4_beginOf
theorem dX4_pageFor_0 : decode cX4_pageFor 0 = .ok (.iconst 0, 1) := by decide +kernel
theorem dX4_pageFor_1 : decode cX4_pageFor 1 = .ok (.istore_n 2, 1) := by decide +kernel
theorem dX4_pageFor_2 : decode cX4_pageFor 2 = .ok (.iconst 0, 1) := by decide +kernel
theorem dX4_pageFor_3 : decode cX4_pageFor 3 = .ok (.istore_n 3, 1) := by decide +kernel
theorem dX4_pageFor_4 : decode cX4_pageFor 4 = .ok (.iload_n 3, 1) := by decide +kernel
theorem dX4_pageFor_5 : decode cX4_pageFor 5 = .ok (.aload_n 0, 1) := by decide +kernel
theorem dX4_pageFor_6 : decode cX4_pageFor 6 = .ok (.getfield 45, 3) := by decide +kernel
theorem dX4_pageFor_9 : decode cX4_pageFor 9 = .ok (.if_icmp .ge 29, 3) := by decide +kernel
theorem dX4_pageFor_12 : decode cX4_pageFor 12 = .ok (.aload_n 0, 1) := by decide +kernel
theorem dX4_pageFor_13 : decode cX4_pageFor 13 = .ok (.getfield 7, 3) := by decide +kernel
theorem dX4_pageFor_16 : decode cX4_pageFor 16 = .ok (.aload_n 0, 1) := by decide +kernel
theorem dX4_pageFor_17 : decode cX4_pageFor 17 = .ok (.iload_n 3, 1) := by decide +kernel
theorem dX4_pageFor_18 : decode cX4_pageFor 18 = .ok (.invokevirtual 48, 3) := by decide +kernel
theorem dX4_pageFor_21 : decode cX4_pageFor 21 = .ok (.iaload, 1) := by decide +kernel
theorem dX4_pageFor_22 : decode cX4_pageFor 22 = .ok (.iload_n 1, 1) := by decide +kernel
theorem dX4_pageFor_23 : decode cX4_pageFor 23 = .ok (.if_icmp .ge 7, 3) := by decide +kernel
theorem dX4_pageFor_26 : decode cX4_pageFor 26 = .ok (.iload_n 3, 1) := by decide +kernel
theorem dX4_pageFor_27 : decode cX4_pageFor 27 = .ok (.goto 4, 3) := by decide +kernel
theorem dX4_pageFor_30 : decode cX4_pageFor 30 = .ok (.iload_n 2, 1) := by decide +kernel
theorem dX4_pageFor_31 : decode cX4_pageFor 31 = .ok (.istore_n 2, 1) := by decide +kernel
theorem dX4_pageFor_32 : decode cX4_pageFor 32 = .ok (.iinc 3 1, 3) := by decide +kernel
theorem dX4_pageFor_35 : decode cX4_pageFor 35 = .ok (.goto (-31), 3) := by decide +kernel
theorem dX4_pageFor_38 : decode cX4_pageFor 38 = .ok (.iload_n 2, 1) := by decide +kernel
theorem dX4_pageFor_39 : decode cX4_pageFor 39 = .ok (.ireturn, 1) := by decide +kernel
theorem dX4_split_0 : decode cX4_split 0 = .ok (.aload_n 0, 1) := by decide +kernel
theorem dX4_split_1 : decode cX4_split 1 = .ok (.getfield 45, 3) := by decide +kernel
theorem dX4_split_4 : decode cX4_split 4 = .ok (.istore_n 2, 1) := by decide +kernel
theorem dX4_split_5 : decode cX4_split 5 = .ok (.iload_n 2, 1) := by decide +kernel
theorem dX4_split_6 : decode cX4_split 6 = .ok (.iload_n 1, 1) := by decide +kernel
theorem dX4_split_7 : decode cX4_split 7 = .ok (.iconst 1, 1) := by decide +kernel
theorem dX4_split_8 : decode cX4_split 8 = .ok (.iadd, 1) := by decide +kernel
theorem dX4_split_9 : decode cX4_split 9 = .ok (.if_icmp .le 23, 3) := by decide +kernel
theorem dX4_split_12 : decode cX4_split 12 = .ok (.aload_n 0, 1) := by decide +kernel
theorem dX4_split_13 : decode cX4_split 13 = .ok (.getfield 25, 3) := by decide +kernel
theorem dX4_split_16 : decode cX4_split 16 = .ok (.iload_n 2, 1) := by decide +kernel
theorem dX4_split_17 : decode cX4_split 17 = .ok (.aload_n 0, 1) := by decide +kernel
theorem dX4_split_18 : decode cX4_split 18 = .ok (.getfield 25, 3) := by decide +kernel
theorem dX4_split_21 : decode cX4_split 21 = .ok (.iload_n 2, 1) := by decide +kernel
theorem dX4_split_22 : decode cX4_split 22 = .ok (.iconst 1, 1) := by decide +kernel
theorem dX4_split_23 : decode cX4_split 23 = .ok (.isub, 1) := by decide +kernel
theorem dX4_split_24 : decode cX4_split 24 = .ok (.iaload, 1) := by decide +kernel
theorem dX4_split_25 : decode cX4_split 25 = .ok (.iastore, 1) := by decide +kernel
theorem dX4_split_26 : decode cX4_split 26 = .ok (.iinc 2 (-1), 3) := by decide +kernel
theorem dX4_split_29 : decode cX4_split 29 = .ok (.goto (-24), 3) := by decide +kernel
theorem dX4_split_32 : decode cX4_split 32 = .ok (.aload_n 0, 1) := by decide +kernel
theorem dX4_split_33 : decode cX4_split 33 = .ok (.dup, 1) := by decide +kernel
theorem dX4_split_34 : decode cX4_split 34 = .ok (.getfield 45, 3) := by decide +kernel
theorem dX4_split_37 : decode cX4_split 37 = .ok (.iconst 1, 1) := by decide +kernel
theorem dX4_split_38 : decode cX4_split 38 = .ok (.iadd, 1) := by decide +kernel
theorem dX4_split_39 : decode cX4_split 39 = .ok (.putfield 45, 3) := by decide +kernel
theorem dX4_split_42 : decode cX4_split 42 = .ok (.aload_n 0, 1) := by decide +kernel
theorem dX4_split_43 : decode cX4_split 43 = .ok (.getfield 25, 3) := by decide +kernel
theorem dX4_split_46 : decode cX4_split 46 = .ok (.iload_n 1, 1) := by decide +kernel
theorem dX4_split_47 : decode cX4_split 47 = .ok (.iconst 2, 1) := by decide +kernel
theorem dX4_split_48 : decode cX4_split 48 = .ok (.iastore, 1) := by decide +kernel
theorem dX4_split_49 : decode cX4_split 49 = .ok (.aload_n 0, 1) := by decide +kernel
theorem dX4_split_50 : decode cX4_split 50 = .ok (.getfield 25, 3) := by decide +kernel
theorem dX4_split_53 : decode cX4_split 53 = .ok (.iload_n 1, 1) := by decide +kernel
theorem dX4_split_54 : decode cX4_split 54 = .ok (.iconst 1, 1) := by decide +kernel
theorem dX4_split_55 : decode cX4_split 55 = .ok (.iadd, 1) := by decide +kernel
theorem dX4_split_56 : decode cX4_split 56 = .ok (.iconst 2, 1) := by decide +kernel
theorem dX4_split_57 : decode cX4_split 57 = .ok (.iastore, 1) := by decide +kernel
theorem dX4_split_58 : decode cX4_split 58 = .ok (.return_, 1) := by decide +kernel
set_option maxRecDepth 20000 in
theorem ggX4_moveUp_X4_copy : GoodIn wsX4_moveUp wsX4_copy := goodIn_r _ [6, 7, 8, 9, 10, 11, 12, 13, 14, 15, 16, 17, 18, 19, 20, 21, 22, 23, 24, 25] (by decide +kernel) (by decide +kernel)
set_option maxRecDepth 20000 in
theorem gX4_moveUp_X4_copy : GoodIn wsX4_moveUp (wsV RX4 52 RX4 yX4_copy wsX4_copy) := goodIn_app (goodIn_of _ (by decide +kernel)) ggX4_moveUp_X4_copy
theorem dX4_moveUp_0 : decode cX4_moveUp 0 = .ok (.aload_n 0, 1) := by decide +kernel
theorem dX4_moveUp_1 : decode cX4_moveUp 1 = .ok (.getfield 42, 3) := by decide +kernel
theorem dX4_moveUp_4 : decode cX4_moveUp 4 = .ok (.istore_n 2, 1) := by decide +kernel
theorem dX4_moveUp_5 : decode cX4_moveUp 5 = .ok (.iload_n 2, 1) := by decide +kernel
theorem dX4_moveUp_6 : decode cX4_moveUp 6 = .ok (.iload_n 1, 1) := by decide +kernel
theorem dX4_moveUp_7 : decode cX4_moveUp 7 = .ok (.if_icmp .le 17, 3) := by decide +kernel
theorem dX4_moveUp_10 : decode cX4_moveUp 10 = .ok (.aload_n 0, 1) := by decide +kernel
theorem dX4_moveUp_11 : decode cX4_moveUp 11 = .ok (.iload_n 2, 1) := by decide +kernel
theorem dX4_moveUp_12 : decode cX4_moveUp 12 = .ok (.iconst 1, 1) := by decide +kernel
theorem dX4_moveUp_13 : decode cX4_moveUp 13 = .ok (.isub, 1) := by decide +kernel
theorem dX4_moveUp_14 : decode cX4_moveUp 14 = .ok (.iload_n 2, 1) := by decide +kernel
theorem dX4_moveUp_15 : decode cX4_moveUp 15 = .ok (.invokevirtual 52, 3) := by decide +kernel
theorem dX4_moveUp_18 : decode cX4_moveUp 18 = .ok (.iinc 2 (-1), 3) := by decide +kernel
theorem dX4_moveUp_21 : decode cX4_moveUp 21 = .ok (.goto (-16), 3) := by decide +kernel
theorem dX4_moveUp_24 : decode cX4_moveUp 24 = .ok (.return_, 1) := by decide +kernel
theorem dX4_copy_0 : decode cX4_copy 0 = .ok (.aload_n 0, 1) := by decide +kernel
theorem dX4_copy_1 : decode cX4_copy 1 = .ok (.getfield 7, 3) := by decide +kernel
theorem dX4_copy_4 : decode cX4_copy 4 = .ok (.iload_n 2, 1) := by decide +kernel
theorem dX4_copy_5 : decode cX4_copy 5 = .ok (.aload_n 0, 1) := by decide +kernel
theorem dX4_copy_6 : decode cX4_copy 6 = .ok (.getfield 7, 3) := by decide +kernel
theorem dX4_copy_9 : decode cX4_copy 9 = .ok (.iload_n 1, 1) := by decide +kernel
theorem dX4_copy_10 : decode cX4_copy 10 = .ok (.iaload, 1) := by decide +kernel
theorem dX4_copy_11 : decode cX4_copy 11 = .ok (.iastore, 1) := by decide +kernel
theorem dX4_copy_12 : decode cX4_copy 12 = .ok (.aload_n 0, 1) := by decide +kernel
theorem dX4_copy_13 : decode cX4_copy 13 = .ok (.getfield 13, 3) := by decide +kernel
theorem dX4_copy_16 : decode cX4_copy 16 = .ok (.iload_n 2, 1) := by decide +kernel
theorem dX4_copy_17 : decode cX4_copy 17 = .ok (.aload_n 0, 1) := by decide +kernel
theorem dX4_copy_18 : decode cX4_copy 18 = .ok (.getfield 13, 3) := by decide +kernel
theorem dX4_copy_21 : decode cX4_copy 21 = .ok (.iload_n 1, 1) := by decide +kernel
theorem dX4_copy_22 : decode cX4_copy 22 = .ok (.iaload, 1) := by decide +kernel
theorem dX4_copy_23 : decode cX4_copy 23 = .ok (.iastore, 1) := by decide +kernel
theorem dX4_copy_24 : decode cX4_copy 24 = .ok (.aload_n 0, 1) := by decide +kernel
theorem dX4_copy_25 : decode cX4_copy 25 = .ok (.getfield 16, 3) := by decide +kernel
theorem dX4_copy_28 : decode cX4_copy 28 = .ok (.iload_n 2, 1) := by decide +kernel
theorem dX4_copy_29 : decode cX4_copy 29 = .ok (.aload_n 0, 1) := by decide +kernel
theorem dX4_copy_30 : decode cX4_copy 30 = .ok (.getfield 16, 3) := by decide +kernel
theorem dX4_copy_33 : decode cX4_copy 33 = .ok (.iload_n 1, 1) := by decide +kernel
theorem dX4_copy_34 : decode cX4_copy 34 = .ok (.iaload, 1) := by decide +kernel
theorem dX4_copy_35 : decode cX4_copy 35 = .ok (.iastore, 1) := by decide +kernel
theorem dX4_copy_36 : decode cX4_copy 36 = .ok (.aload_n 0, 1) := by decide +kernel
theorem dX4_copy_37 : decode cX4_copy 37 = .ok (.getfield 19, 3) := by decide +kernel
theorem dX4_copy_40 : decode cX4_copy 40 = .ok (.iload_n 2, 1) := by decide +kernel
theorem dX4_copy_41 : decode cX4_copy 41 = .ok (.aload_n 0, 1) := by decide +kernel
theorem dX4_copy_42 : decode cX4_copy 42 = .ok (.getfield 19, 3) := by decide +kernel
theorem dX4_copy_45 : decode cX4_copy 45 = .ok (.iload_n 1, 1) := by decide +kernel
theorem dX4_copy_46 : decode cX4_copy 46 = .ok (.iaload, 1) := by decide +kernel
theorem dX4_copy_47 : decode cX4_copy 47 = .ok (.iastore, 1) := by decide +kernel
theorem dX4_copy_48 : decode cX4_copy 48 = .ok (.aload_n 0, 1) := by decide +kernel
theorem dX4_copy_49 : decode cX4_copy 49 = .ok (.getfield 22, 3) := by decide +kernel
theorem dX4_copy_52 : decode cX4_copy 52 = .ok (.iload_n 2, 1) := by decide +kernel
theorem dX4_copy_53 : decode cX4_copy 53 = .ok (.aload_n 0, 1) := by decide +kernel
theorem dX4_copy_54 : decode cX4_copy 54 = .ok (.getfield 22, 3) := by decide +kernel
theorem dX4_copy_57 : decode cX4_copy 57 = .ok (.iload_n 1, 1) := by decide +kernel
theorem dX4_copy_58 : decode cX4_copy 58 = .ok (.iaload, 1) := by decide +kernel
theorem dX4_copy_59 : decode cX4_copy 59 = .ok (.iastore, 1) := by decide +kernel
theorem dX4_copy_60 : decode cX4_copy 60 = .ok (.return_, 1) := by decide +kernel
set_option maxRecDepth 20000 in
theorem ggX4_put_X4_isCase : GoodIn wsX4_put wsX4_isCase := goodIn_r _ [13, 14, 15, 12, 16] (by decide +kernel) (by decide +kernel)
set_option maxRecDepth 20000 in
theorem gX4_put_X4_isCase : GoodIn wsX4_put (va_wsS RX4 56 yX4_isCase wsX4_isCase) := goodIn_app (goodIn_of _ (by decide +kernel)) ggX4_put_X4_isCase
set_option maxRecDepth 20000 in
theorem ggX4_put_X4_in : GoodIn wsX4_put wsX4_in := goodIn_r _ [16] (by decide +kernel) (by decide +kernel)
set_option maxRecDepth 20000 in
theorem gX4_put_X4_in : GoodIn wsX4_put (va_wsS RX4 38 yX4_in wsX4_in) := goodIn_app (goodIn_of _ (by decide +kernel)) ggX4_put_X4_in
set_option maxRecDepth 20000 in
theorem ggX4_put_X4_find : GoodIn wsX4_put wsX4_find := goodIn_r _ [20, 1, 4, 46, 47, 48, 49, 50, 51, 52, 53, 54, 55, 56, 57, 58, 59] (by decide +kernel) (by decide +kernel)
set_option maxRecDepth 20000 in
theorem gX4_put_X4_find : GoodIn wsX4_put (wsV RX4 60 RX4 yX4_find wsX4_find) := goodIn_app (goodIn_of _ (by decide +kernel)) ggX4_put_X4_find
set_option maxRecDepth 20000 in
theorem ggX4_put_X4_goesWell : GoodIn wsX4_put wsX4_goesWell := goodIn_r _ [24, 25, 46, 47, 48, 49, 50, 51, 52, 53, 54, 55, 56, 57, 58, 59] (by decide +kernel) (by decide +kernel)
set_option maxRecDepth 20000 in
theorem gX4_put_X4_goesWell : GoodIn wsX4_put (wsV RX4 63 RX4 yX4_goesWell wsX4_goesWell) := goodIn_app (goodIn_of _ (by decide +kernel)) ggX4_put_X4_goesWell
set_option maxRecDepth 20000 in
theorem ggX4_put_X4_pageFor : GoodIn wsX4_put wsX4_pageFor := goodIn_r _ [29, 2, 4, 30, 31, 32, 12, 33, 3, 46, 47, 48, 49, 50, 51, 52, 53, 54, 55, 56, 57, 58, 59] (by decide +kernel) (by decide +kernel)
set_option maxRecDepth 20000 in
theorem gX4_put_X4_pageFor : GoodIn wsX4_put (wsV RX4 66 RX4 yX4_pageFor wsX4_pageFor) := goodIn_app (goodIn_of _ (by decide +kernel)) ggX4_put_X4_pageFor
set_option maxRecDepth 20000 in
theorem ggX4_put_X4_split : GoodIn wsX4_put wsX4_split := goodIn_r _ [37, 2, 3, 46, 47, 48, 49, 50, 51, 52, 53, 54, 55, 56, 57, 58, 59] (by decide +kernel) (by decide +kernel)
set_option maxRecDepth 20000 in
theorem gX4_put_X4_split : GoodIn wsX4_put (wsV RX4 69 RX4 yX4_split wsX4_split) := goodIn_app (goodIn_of _ (by decide +kernel)) ggX4_put_X4_split
set_option maxRecDepth 20000 in
theorem ggX4_put_X4_moveUp : GoodIn wsX4_put wsX4_moveUp := goodIn_r _ [41, 1, 42, 43, 44, 12, 45, 4, 5, 6, 7, 9, 46, 47, 48, 49, 50, 51, 52, 53, 54, 55, 56, 57, 58, 59] (by decide +kernel) (by decide +kernel)
set_option maxRecDepth 20000 in
theorem gX4_put_X4_moveUp : GoodIn wsX4_put (wsV RX4 73 RX4 yX4_moveUp wsX4_moveUp) := goodIn_app (goodIn_of _ (by decide +kernel)) ggX4_put_X4_moveUp
theorem dX4_put_0 : decode cX4_put 0 = .ok (.iload_n 1, 1) := by decide +kernel
theorem dX4_put_1 : decode cX4_put 1 = .ok (.invokestatic 56, 3) := by decide +kernel
theorem dX4_put_4 : decode cX4_put 4 = .ok (.ifCond .eq 28, 3) := by decide +kernel
theorem dX4_put_7 : decode cX4_put 7 = .ok (.iload_n 2, 1) := by decide +kernel
theorem dX4_put_8 : decode cX4_put 8 = .ok (.iconst 1, 1) := by decide +kernel
theorem dX4_put_9 : decode cX4_put 9 = .ok (.sipush 10000, 3) := by decide +kernel
theorem dX4_put_12 : decode cX4_put 12 = .ok (.invokestatic 38, 3) := by decide +kernel
theorem dX4_put_15 : decode cX4_put 15 = .ok (.ifCond .eq 17, 3) := by decide +kernel
theorem dX4_put_18 : decode cX4_put 18 = .ok (.iload_n 3, 1) := by decide +kernel
theorem dX4_put_19 : decode cX4_put 19 = .ok (.iconst 0, 1) := by decide +kernel
theorem dX4_put_20 : decode cX4_put 20 = .ok (.bipush 9, 2) := by decide +kernel
theorem dX4_put_22 : decode cX4_put 22 = .ok (.invokestatic 38, 3) := by decide +kernel
theorem dX4_put_25 : decode cX4_put 25 = .ok (.ifCond .eq 7, 3) := by decide +kernel
theorem dX4_put_28 : decode cX4_put 28 = .ok (.iconst 1, 1) := by decide +kernel
theorem dX4_put_29 : decode cX4_put 29 = .ok (.goto 4, 3) := by decide +kernel
theorem dX4_put_32 : decode cX4_put 32 = .ok (.iconst 0, 1) := by decide +kernel
theorem dX4_put_33 : decode cX4_put 33 = .ok (.istore 4, 2) := by decide +kernel
theorem dX4_put_35 : decode cX4_put 35 = .ok (.aload_n 0, 1) := by decide +kernel
theorem dX4_put_36 : decode cX4_put 36 = .ok (.iload 4, 2) := by decide +kernel
theorem dX4_put_38 : decode cX4_put 38 = .ok (.ifCond .ne 7, 3) := by decide +kernel
theorem dX4_put_41 : decode cX4_put 41 = .ok (.iconst 1, 1) := by decide +kernel
theorem dX4_put_42 : decode cX4_put 42 = .ok (.goto 26, 3) := by decide +kernel
theorem dX4_put_45 : decode cX4_put 45 = .ok (.aload_n 0, 1) := by decide +kernel
theorem dX4_put_46 : decode cX4_put 46 = .ok (.iload_n 1, 1) := by decide +kernel
theorem dX4_put_47 : decode cX4_put 47 = .ok (.invokevirtual 60, 3) := by decide +kernel
theorem dX4_put_50 : decode cX4_put 50 = .ok (.iconst (-1), 1) := by decide +kernel
theorem dX4_put_51 : decode cX4_put 51 = .ok (.if_icmp .ne 12, 3) := by decide +kernel
theorem dX4_put_54 : decode cX4_put 54 = .ok (.aload_n 0, 1) := by decide +kernel
theorem dX4_put_55 : decode cX4_put 55 = .ok (.getfield 42, 3) := by decide +kernel
theorem dX4_put_58 : decode cX4_put 58 = .ok (.bipush 80, 2) := by decide +kernel
theorem dX4_put_60 : decode cX4_put 60 = .ok (.if_icmp .ne 7, 3) := by decide +kernel
theorem dX4_put_63 : decode cX4_put 63 = .ok (.iconst 2, 1) := by decide +kernel
theorem dX4_put_64 : decode cX4_put 64 = .ok (.goto 4, 3) := by decide +kernel
theorem dX4_put_67 : decode cX4_put 67 = .ok (.iconst 0, 1) := by decide +kernel
theorem dX4_put_68 : decode cX4_put 68 = .ok (.invokevirtual 63, 3) := by decide +kernel
theorem dX4_put_71 : decode cX4_put 71 = .ok (.ifCond .ne 5, 3) := by decide +kernel
theorem dX4_put_74 : decode cX4_put 74 = .ok (.iconst 0, 1) := by decide +kernel
theorem dX4_put_75 : decode cX4_put 75 = .ok (.ireturn, 1) := by decide +kernel
theorem dX4_put_76 : decode cX4_put 76 = .ok (.aload_n 0, 1) := by decide +kernel
theorem dX4_put_77 : decode cX4_put 77 = .ok (.getfield 45, 3) := by decide +kernel
theorem dX4_put_80 : decode cX4_put 80 = .ok (.ifCond .ne 15, 3) := by decide +kernel
theorem dX4_put_83 : decode cX4_put 83 = .ok (.aload_n 0, 1) := by decide +kernel
theorem dX4_put_84 : decode cX4_put 84 = .ok (.iconst 1, 1) := by decide +kernel
theorem dX4_put_85 : decode cX4_put 85 = .ok (.putfield 45, 3) := by decide +kernel
theorem dX4_put_88 : decode cX4_put 88 = .ok (.aload_n 0, 1) := by decide +kernel
theorem dX4_put_89 : decode cX4_put 89 = .ok (.getfield 25, 3) := by decide +kernel
theorem dX4_put_92 : decode cX4_put 92 = .ok (.iconst 0, 1) := by decide +kernel
theorem dX4_put_93 : decode cX4_put 93 = .ok (.iconst 0, 1) := by decide +kernel
theorem dX4_put_94 : decode cX4_put 94 = .ok (.iastore, 1) := by decide +kernel
theorem dX4_put_95 : decode cX4_put 95 = .ok (.aload_n 0, 1) := by decide +kernel
theorem dX4_put_96 : decode cX4_put 96 = .ok (.getfield 42, 3) := by decide +kernel
theorem dX4_put_99 : decode cX4_put 99 = .ok (.ifCond .ne 7, 3) := by decide +kernel
theorem dX4_put_102 : decode cX4_put 102 = .ok (.iconst 0, 1) := by decide +kernel
theorem dX4_put_103 : decode cX4_put 103 = .ok (.goto 8, 3) := by decide +kernel
theorem dX4_put_106 : decode cX4_put 106 = .ok (.aload_n 0, 1) := by decide +kernel
theorem dX4_put_107 : decode cX4_put 107 = .ok (.iload_n 1, 1) := by decide +kernel
theorem dX4_put_108 : decode cX4_put 108 = .ok (.invokevirtual 66, 3) := by decide +kernel
theorem dX4_put_111 : decode cX4_put 111 = .ok (.istore 5, 2) := by decide +kernel
theorem dX4_put_113 : decode cX4_put 113 = .ok (.aload_n 0, 1) := by decide +kernel
theorem dX4_put_114 : decode cX4_put 114 = .ok (.getfield 25, 3) := by decide +kernel
theorem dX4_put_117 : decode cX4_put 117 = .ok (.iload 5, 2) := by decide +kernel
theorem dX4_put_119 : decode cX4_put 119 = .ok (.iaload, 1) := by decide +kernel
theorem dX4_put_120 : decode cX4_put 120 = .ok (.iconst 4, 1) := by decide +kernel
theorem dX4_put_121 : decode cX4_put 121 = .ok (.if_icmp .ne 16, 3) := by decide +kernel
theorem dX4_put_124 : decode cX4_put 124 = .ok (.aload_n 0, 1) := by decide +kernel
theorem dX4_put_125 : decode cX4_put 125 = .ok (.iload 5, 2) := by decide +kernel
theorem dX4_put_127 : decode cX4_put 127 = .ok (.invokevirtual 69, 3) := by decide +kernel
theorem dX4_put_130 : decode cX4_put 130 = .ok (.aload_n 0, 1) := by decide +kernel
theorem dX4_put_131 : decode cX4_put 131 = .ok (.iload_n 1, 1) := by decide +kernel
theorem dX4_put_132 : decode cX4_put 132 = .ok (.invokevirtual 66, 3) := by decide +kernel
theorem dX4_put_135 : decode cX4_put 135 = .ok (.istore 5, 2) := by decide +kernel
theorem dX4_put_137 : decode cX4_put 137 = .ok (.aload_n 0, 1) := by decide +kernel
theorem dX4_put_138 : decode cX4_put 138 = .ok (.getfield 25, 3) := by decide +kernel
theorem dX4_put_141 : decode cX4_put 141 = .ok (.iload 5, 2) := by decide +kernel
theorem dX4_put_143 : decode cX4_put 143 = .ok (.dup2, 1) := by decide +kernel
theorem dX4_put_144 : decode cX4_put 144 = .ok (.iaload, 1) := by decide +kernel
theorem dX4_put_145 : decode cX4_put 145 = .ok (.iconst 1, 1) := by decide +kernel
theorem dX4_put_146 : decode cX4_put 146 = .ok (.iadd, 1) := by decide +kernel
theorem dX4_put_147 : decode cX4_put 147 = .ok (.iastore, 1) := by decide +kernel
theorem dX4_put_148 : decode cX4_put 148 = .ok (.iconst 0, 1) := by decide +kernel
theorem dX4_put_149 : decode cX4_put 149 = .ok (.istore 6, 2) := by decide +kernel
theorem dX4_put_151 : decode cX4_put 151 = .ok (.iload 6, 2) := by decide +kernel
theorem dX4_put_153 : decode cX4_put 153 = .ok (.aload_n 0, 1) := by decide +kernel
theorem dX4_put_154 : decode cX4_put 154 = .ok (.getfield 42, 3) := by decide +kernel
theorem dX4_put_157 : decode cX4_put 157 = .ok (.if_icmp .ge 20, 3) := by decide +kernel
theorem dX4_put_160 : decode cX4_put 160 = .ok (.aload_n 0, 1) := by decide +kernel
theorem dX4_put_161 : decode cX4_put 161 = .ok (.getfield 7, 3) := by decide +kernel
theorem dX4_put_164 : decode cX4_put 164 = .ok (.iload 6, 2) := by decide +kernel
theorem dX4_put_166 : decode cX4_put 166 = .ok (.iaload, 1) := by decide +kernel
theorem dX4_put_167 : decode cX4_put 167 = .ok (.iload_n 1, 1) := by decide +kernel
theorem dX4_put_168 : decode cX4_put 168 = .ok (.if_icmp .ge 9, 3) := by decide +kernel
theorem dX4_put_171 : decode cX4_put 171 = .ok (.iinc 6 1, 3) := by decide +kernel
theorem dX4_put_174 : decode cX4_put 174 = .ok (.goto (-23), 3) := by decide +kernel
theorem dX4_put_177 : decode cX4_put 177 = .ok (.aload_n 0, 1) := by decide +kernel
theorem dX4_put_178 : decode cX4_put 178 = .ok (.iload 6, 2) := by decide +kernel
theorem dX4_put_180 : decode cX4_put 180 = .ok (.invokevirtual 73, 3) := by decide +kernel
theorem dX4_put_183 : decode cX4_put 183 = .ok (.aload_n 0, 1) := by decide +kernel
theorem dX4_put_184 : decode cX4_put 184 = .ok (.getfield 7, 3) := by decide +kernel
theorem dX4_put_187 : decode cX4_put 187 = .ok (.iload 6, 2) := by decide +kernel
theorem dX4_put_189 : decode cX4_put 189 = .ok (.iload_n 1, 1) := by decide +kernel
theorem dX4_put_190 : decode cX4_put 190 = .ok (.iastore, 1) := by decide +kernel
theorem dX4_put_191 : decode cX4_put 191 = .ok (.aload_n 0, 1) := by decide +kernel
theorem dX4_put_192 : decode cX4_put 192 = .ok (.getfield 13, 3) := by decide +kernel
theorem dX4_put_195 : decode cX4_put 195 = .ok (.iload 6, 2) := by decide +kernel
theorem dX4_put_197 : decode cX4_put 197 = .ok (.iload_n 2, 1) := by decide +kernel
theorem dX4_put_198 : decode cX4_put 198 = .ok (.iastore, 1) := by decide +kernel
theorem dX4_put_199 : decode cX4_put 199 = .ok (.aload_n 0, 1) := by decide +kernel
theorem dX4_put_200 : decode cX4_put 200 = .ok (.getfield 16, 3) := by decide +kernel
theorem dX4_put_203 : decode cX4_put 203 = .ok (.iload 6, 2) := by decide +kernel
theorem dX4_put_205 : decode cX4_put 205 = .ok (.iload_n 3, 1) := by decide +kernel
theorem dX4_put_206 : decode cX4_put 206 = .ok (.iastore, 1) := by decide +kernel
theorem dX4_put_207 : decode cX4_put 207 = .ok (.aload_n 0, 1) := by decide +kernel
theorem dX4_put_208 : decode cX4_put 208 = .ok (.getfield 19, 3) := by decide +kernel
theorem dX4_put_211 : decode cX4_put 211 = .ok (.iload 6, 2) := by decide +kernel
theorem dX4_put_213 : decode cX4_put 213 = .ok (.aload_n 0, 1) := by decide +kernel
theorem dX4_put_214 : decode cX4_put 214 = .ok (.getfield 76, 3) := by decide +kernel
theorem dX4_put_217 : decode cX4_put 217 = .ok (.iastore, 1) := by decide +kernel
theorem dX4_put_218 : decode cX4_put 218 = .ok (.aload_n 0, 1) := by decide +kernel
theorem dX4_put_219 : decode cX4_put 219 = .ok (.getfield 22, 3) := by decide +kernel
theorem dX4_put_222 : decode cX4_put 222 = .ok (.iload 6, 2) := by decide +kernel
theorem dX4_put_224 : decode cX4_put 224 = .ok (.iconst (-1), 1) := by decide +kernel
theorem dX4_put_225 : decode cX4_put 225 = .ok (.iastore, 1) := by decide +kernel
theorem dX4_put_226 : decode cX4_put 226 = .ok (.aload_n 0, 1) := by decide +kernel
theorem dX4_put_227 : decode cX4_put 227 = .ok (.dup, 1) := by decide +kernel
theorem dX4_put_228 : decode cX4_put 228 = .ok (.getfield 42, 3) := by decide +kernel
theorem dX4_put_231 : decode cX4_put 231 = .ok (.iconst 1, 1) := by decide +kernel
theorem dX4_put_232 : decode cX4_put 232 = .ok (.iadd, 1) := by decide +kernel
theorem dX4_put_233 : decode cX4_put 233 = .ok (.putfield 42, 3) := by decide +kernel
theorem dX4_put_236 : decode cX4_put 236 = .ok (.aload_n 0, 1) := by decide +kernel
theorem dX4_put_237 : decode cX4_put 237 = .ok (.getfield 45, 3) := by decide +kernel
theorem dX4_put_240 : decode cX4_put 240 = .ok (.ireturn, 1) := by decide +kernel
set_option maxRecDepth 20000 in
theorem ggX4_settle_X4_dropPage : GoodIn wsX4_settle wsX4_dropPage := goodIn_r _ [7, 1, 2, 8, 9, 10, 11, 12, 13, 14, 15, 16, 17, 18, 19, 20, 21] (by decide +kernel) (by decide +kernel)
set_option maxRecDepth 20000 in
theorem gX4_settle_X4_dropPage : GoodIn wsX4_settle (wsV RX4 79 RX4 yX4_dropPage wsX4_dropPage) := goodIn_app (goodIn_of _ (by decide +kernel)) ggX4_settle_X4_dropPage
theorem dX4_settle_0 : decode cX4_settle 0 = .ok (.iload_n 1, 1) := by decide +kernel
theorem dX4_settle_1 : decode cX4_settle 1 = .ok (.iconst 1, 1) := by decide +kernel
theorem dX4_settle_2 : decode cX4_settle 2 = .ok (.iadd, 1) := by decide +kernel
theorem dX4_settle_3 : decode cX4_settle 3 = .ok (.aload_n 0, 1) := by decide +kernel
theorem dX4_settle_4 : decode cX4_settle 4 = .ok (.getfield 45, 3) := by decide +kernel
theorem dX4_settle_7 : decode cX4_settle 7 = .ok (.if_icmp .ge 7, 3) := by decide +kernel
theorem dX4_settle_10 : decode cX4_settle 10 = .ok (.iconst 1, 1) := by decide +kernel
theorem dX4_settle_11 : decode cX4_settle 11 = .ok (.goto 4, 3) := by decide +kernel
theorem dX4_settle_14 : decode cX4_settle 14 = .ok (.iconst 0, 1) := by decide +kernel
theorem dX4_settle_15 : decode cX4_settle 15 = .ok (.istore_n 2, 1) := by decide +kernel
theorem dX4_settle_16 : decode cX4_settle 16 = .ok (.iload_n 2, 1) := by decide +kernel
theorem dX4_settle_17 : decode cX4_settle 17 = .ok (.ifCond .eq 40, 3) := by decide +kernel
theorem dX4_settle_20 : decode cX4_settle 20 = .ok (.aload_n 0, 1) := by decide +kernel
theorem dX4_settle_21 : decode cX4_settle 21 = .ok (.getfield 25, 3) := by decide +kernel
theorem dX4_settle_24 : decode cX4_settle 24 = .ok (.iload_n 1, 1) := by decide +kernel
theorem dX4_settle_25 : decode cX4_settle 25 = .ok (.iconst 1, 1) := by decide +kernel
theorem dX4_settle_26 : decode cX4_settle 26 = .ok (.iadd, 1) := by decide +kernel
theorem dX4_settle_27 : decode cX4_settle 27 = .ok (.iaload, 1) := by decide +kernel
theorem dX4_settle_28 : decode cX4_settle 28 = .ok (.iconst 2, 1) := by decide +kernel
theorem dX4_settle_29 : decode cX4_settle 29 = .ok (.if_icmp .le 28, 3) := by decide +kernel
theorem dX4_settle_32 : decode cX4_settle 32 = .ok (.aload_n 0, 1) := by decide +kernel
theorem dX4_settle_33 : decode cX4_settle 33 = .ok (.getfield 25, 3) := by decide +kernel
theorem dX4_settle_36 : decode cX4_settle 36 = .ok (.iload_n 1, 1) := by decide +kernel
theorem dX4_settle_37 : decode cX4_settle 37 = .ok (.dup2, 1) := by decide +kernel
theorem dX4_settle_38 : decode cX4_settle 38 = .ok (.iaload, 1) := by decide +kernel
theorem dX4_settle_39 : decode cX4_settle 39 = .ok (.iconst 1, 1) := by decide +kernel
theorem dX4_settle_40 : decode cX4_settle 40 = .ok (.iadd, 1) := by decide +kernel
theorem dX4_settle_41 : decode cX4_settle 41 = .ok (.iastore, 1) := by decide +kernel
theorem dX4_settle_42 : decode cX4_settle 42 = .ok (.aload_n 0, 1) := by decide +kernel
theorem dX4_settle_43 : decode cX4_settle 43 = .ok (.getfield 25, 3) := by decide +kernel
theorem dX4_settle_46 : decode cX4_settle 46 = .ok (.iload_n 1, 1) := by decide +kernel
theorem dX4_settle_47 : decode cX4_settle 47 = .ok (.iconst 1, 1) := by decide +kernel
theorem dX4_settle_48 : decode cX4_settle 48 = .ok (.iadd, 1) := by decide +kernel
theorem dX4_settle_49 : decode cX4_settle 49 = .ok (.dup2, 1) := by decide +kernel
theorem dX4_settle_50 : decode cX4_settle 50 = .ok (.iaload, 1) := by decide +kernel
theorem dX4_settle_51 : decode cX4_settle 51 = .ok (.iconst 1, 1) := by decide +kernel
theorem dX4_settle_52 : decode cX4_settle 52 = .ok (.isub, 1) := by decide +kernel
theorem dX4_settle_53 : decode cX4_settle 53 = .ok (.iastore, 1) := by decide +kernel
theorem dX4_settle_54 : decode cX4_settle 54 = .ok (.goto 71, 3) := by decide +kernel
theorem dX4_settle_57 : decode cX4_settle 57 = .ok (.iload_n 1, 1) := by decide +kernel
theorem dX4_settle_58 : decode cX4_settle 58 = .ok (.ifCond .le 40, 3) := by decide +kernel
theorem dX4_settle_61 : decode cX4_settle 61 = .ok (.aload_n 0, 1) := by decide +kernel
theorem dX4_settle_62 : decode cX4_settle 62 = .ok (.getfield 25, 3) := by decide +kernel
theorem dX4_settle_65 : decode cX4_settle 65 = .ok (.iload_n 1, 1) := by decide +kernel
theorem dX4_settle_66 : decode cX4_settle 66 = .ok (.iconst 1, 1) := by decide +kernel
theorem dX4_settle_67 : decode cX4_settle 67 = .ok (.isub, 1) := by decide +kernel
theorem dX4_settle_68 : decode cX4_settle 68 = .ok (.iaload, 1) := by decide +kernel
theorem dX4_settle_69 : decode cX4_settle 69 = .ok (.iconst 2, 1) := by decide +kernel
theorem dX4_settle_70 : decode cX4_settle 70 = .ok (.if_icmp .le 28, 3) := by decide +kernel
theorem dX4_settle_73 : decode cX4_settle 73 = .ok (.aload_n 0, 1) := by decide +kernel
theorem dX4_settle_74 : decode cX4_settle 74 = .ok (.getfield 25, 3) := by decide +kernel
theorem dX4_settle_77 : decode cX4_settle 77 = .ok (.iload_n 1, 1) := by decide +kernel
theorem dX4_settle_78 : decode cX4_settle 78 = .ok (.dup2, 1) := by decide +kernel
theorem dX4_settle_79 : decode cX4_settle 79 = .ok (.iaload, 1) := by decide +kernel
theorem dX4_settle_80 : decode cX4_settle 80 = .ok (.iconst 1, 1) := by decide +kernel
theorem dX4_settle_81 : decode cX4_settle 81 = .ok (.iadd, 1) := by decide +kernel
theorem dX4_settle_82 : decode cX4_settle 82 = .ok (.iastore, 1) := by decide +kernel
theorem dX4_settle_83 : decode cX4_settle 83 = .ok (.aload_n 0, 1) := by decide +kernel
theorem dX4_settle_84 : decode cX4_settle 84 = .ok (.getfield 25, 3) := by decide +kernel
theorem dX4_settle_87 : decode cX4_settle 87 = .ok (.iload_n 1, 1) := by decide +kernel
theorem dX4_settle_88 : decode cX4_settle 88 = .ok (.iconst 1, 1) := by decide +kernel
theorem dX4_settle_89 : decode cX4_settle 89 = .ok (.isub, 1) := by decide +kernel
theorem dX4_settle_90 : decode cX4_settle 90 = .ok (.dup2, 1) := by decide +kernel
theorem dX4_settle_91 : decode cX4_settle 91 = .ok (.iaload, 1) := by decide +kernel
theorem dX4_settle_92 : decode cX4_settle 92 = .ok (.iconst 1, 1) := by decide +kernel
theorem dX4_settle_93 : decode cX4_settle 93 = .ok (.isub, 1) := by decide +kernel
theorem dX4_settle_94 : decode cX4_settle 94 = .ok (.iastore, 1) := by decide +kernel
theorem dX4_settle_95 : decode cX4_settle 95 = .ok (.goto 30, 3) := by decide +kernel
theorem dX4_settle_98 : decode cX4_settle 98 = .ok (.aload_n 0, 1) := by decide +kernel
theorem dX4_settle_99 : decode cX4_settle 99 = .ok (.getfield 25, 3) := by decide +kernel
theorem dX4_settle_102 : decode cX4_settle 102 = .ok (.iload_n 2, 1) := by decide +kernel
theorem dX4_settle_103 : decode cX4_settle 103 = .ok (.ifCond .eq 9, 3) := by decide +kernel
theorem dX4_settle_106 : decode cX4_settle 106 = .ok (.iload_n 1, 1) := by decide +kernel
theorem dX4_settle_107 : decode cX4_settle 107 = .ok (.iconst 1, 1) := by decide +kernel
theorem dX4_settle_108 : decode cX4_settle 108 = .ok (.iadd, 1) := by decide +kernel
theorem dX4_settle_109 : decode cX4_settle 109 = .ok (.goto 6, 3) := by decide +kernel
theorem dX4_settle_112 : decode cX4_settle 112 = .ok (.iload_n 1, 1) := by decide +kernel
theorem dX4_settle_113 : decode cX4_settle 113 = .ok (.iconst 1, 1) := by decide +kernel
theorem dX4_settle_114 : decode cX4_settle 114 = .ok (.isub, 1) := by decide +kernel
theorem dX4_settle_115 : decode cX4_settle 115 = .ok (.dup2, 1) := by decide +kernel
theorem dX4_settle_116 : decode cX4_settle 116 = .ok (.iaload, 1) := by decide +kernel
theorem dX4_settle_117 : decode cX4_settle 117 = .ok (.iconst 1, 1) := by decide +kernel
theorem dX4_settle_118 : decode cX4_settle 118 = .ok (.iadd, 1) := by decide +kernel
theorem dX4_settle_119 : decode cX4_settle 119 = .ok (.iastore, 1) := by decide +kernel
theorem dX4_settle_120 : decode cX4_settle 120 = .ok (.aload_n 0, 1) := by decide +kernel
theorem dX4_settle_121 : decode cX4_settle 121 = .ok (.iload_n 1, 1) := by decide +kernel
theorem dX4_settle_122 : decode cX4_settle 122 = .ok (.invokevirtual 79, 3) := by decide +kernel
theorem dX4_settle_125 : decode cX4_settle 125 = .ok (.return_, 1) := by decide +kernel
set_option maxRecDepth 20000 in
theorem ggX4_takeOut_X4_pageAt : GoodIn wsX4_takeOut wsX4_pageAt := goodIn_r _ [9, 2, 27, 28, 29, 30, 31, 32, 33, 34, 35, 36, 37, 38, 39, 40] (by decide +kernel) (by decide +kernel)
set_option maxRecDepth 20000 in
theorem gX4_takeOut_X4_pageAt : GoodIn wsX4_takeOut (wsV RX4 82 RX4 yX4_pageAt wsX4_pageAt) := goodIn_app (goodIn_of _ (by decide +kernel)) ggX4_takeOut_X4_pageAt
set_option maxRecDepth 20000 in
theorem ggX4_takeOut_X4_copy : GoodIn wsX4_takeOut wsX4_copy := goodIn_r _ [13, 14, 15, 16, 17, 18, 27, 28, 29, 30, 31, 32, 33, 34, 35, 36, 37, 38, 39, 40] (by decide +kernel) (by decide +kernel)
set_option maxRecDepth 20000 in
theorem gX4_takeOut_X4_copy : GoodIn wsX4_takeOut (wsV RX4 52 RX4 yX4_copy wsX4_copy) := goodIn_app (goodIn_of _ (by decide +kernel)) ggX4_takeOut_X4_copy
set_option maxRecDepth 20000 in
theorem ggX4_takeOut_X4_dropPage : GoodIn wsX4_takeOut wsX4_dropPage := goodIn_r _ [22, 3, 2, 27, 28, 29, 30, 31, 32, 33, 34, 35, 36, 37, 38, 39, 40] (by decide +kernel) (by decide +kernel)
set_option maxRecDepth 20000 in
theorem gX4_takeOut_X4_dropPage : GoodIn wsX4_takeOut (wsV RX4 79 RX4 yX4_dropPage wsX4_dropPage) := goodIn_app (goodIn_of _ (by decide +kernel)) ggX4_takeOut_X4_dropPage
set_option maxRecDepth 20000 in
theorem ggX4_takeOut_X4_settle : GoodIn wsX4_takeOut wsX4_settle := goodIn_r _ [26, 3, 2, 19, 20, 21, 8, 22, 27, 28, 29, 30, 31, 32, 33, 34, 35, 36, 37, 38, 39, 40] (by decide +kernel) (by decide +kernel)
set_option maxRecDepth 20000 in
theorem gX4_takeOut_X4_settle : GoodIn wsX4_takeOut (wsV RX4 85 RX4 yX4_settle wsX4_settle) := goodIn_app (goodIn_of _ (by decide +kernel)) ggX4_takeOut_X4_settle
theorem dX4_takeOut_0 : decode cX4_takeOut 0 = .ok (.aload_n 0, 1) := by decide +kernel
theorem dX4_takeOut_1 : decode cX4_takeOut 1 = .ok (.iload_n 1, 1) := by decide +kernel
theorem dX4_takeOut_2 : decode cX4_takeOut 2 = .ok (.invokevirtual 82, 3) := by decide +kernel
theorem dX4_takeOut_5 : decode cX4_takeOut 5 = .ok (.istore_n 2, 1) := by decide +kernel
theorem dX4_takeOut_6 : decode cX4_takeOut 6 = .ok (.aload_n 0, 1) := by decide +kernel
theorem dX4_takeOut_7 : decode cX4_takeOut 7 = .ok (.dup, 1) := by decide +kernel
theorem dX4_takeOut_8 : decode cX4_takeOut 8 = .ok (.getfield 42, 3) := by decide +kernel
theorem dX4_takeOut_11 : decode cX4_takeOut 11 = .ok (.iconst 1, 1) := by decide +kernel
