theorem dX4_takeOut_12 : decode cX4_takeOut 12 = .ok (.isub, 1) := by decide +kernel
theorem dX4_takeOut_13 : decode cX4_takeOut 13 = .ok (.putfield 42, 3) := by decide +kernel
theorem dX4_takeOut_16 : decode cX4_takeOut 16 = .ok (.iload_n 1, 1) := by decide +kernel
theorem dX4_takeOut_17 : decode cX4_takeOut 17 = .ok (.istore_n 3, 1) := by decide +kernel
theorem dX4_takeOut_18 : decode cX4_takeOut 18 = .ok (.iload_n 3, 1) := by decide +kernel
theorem dX4_takeOut_19 : decode cX4_takeOut 19 = .ok (.aload_n 0, 1) := by decide +kernel
theorem dX4_takeOut_20 : decode cX4_takeOut 20 = .ok (.getfield 42, 3) := by decide +kernel
theorem dX4_takeOut_23 : decode cX4_takeOut 23 = .ok (.if_icmp .ge 17, 3) := by decide +kernel
theorem dX4_takeOut_26 : decode cX4_takeOut 26 = .ok (.aload_n 0, 1) := by decide +kernel
theorem dX4_takeOut_27 : decode cX4_takeOut 27 = .ok (.iload_n 3, 1) := by decide +kernel
theorem dX4_takeOut_28 : decode cX4_takeOut 28 = .ok (.iconst 1, 1) := by decide +kernel
theorem dX4_takeOut_29 : decode cX4_takeOut 29 = .ok (.iadd, 1) := by decide +kernel
theorem dX4_takeOut_30 : decode cX4_takeOut 30 = .ok (.iload_n 3, 1) := by decide +kernel
theorem dX4_takeOut_31 : decode cX4_takeOut 31 = .ok (.invokevirtual 52, 3) := by decide +kernel
theorem dX4_takeOut_34 : decode cX4_takeOut 34 = .ok (.iinc 3 1, 3) := by decide +kernel
theorem dX4_takeOut_37 : decode cX4_takeOut 37 = .ok (.goto (-19), 3) := by decide +kernel
theorem dX4_takeOut_40 : decode cX4_takeOut 40 = .ok (.aload_n 0, 1) := by decide +kernel
theorem dX4_takeOut_41 : decode cX4_takeOut 41 = .ok (.getfield 25, 3) := by decide +kernel
theorem dX4_takeOut_44 : decode cX4_takeOut 44 = .ok (.iload_n 2, 1) := by decide +kernel
theorem dX4_takeOut_45 : decode cX4_takeOut 45 = .ok (.dup2, 1) := by decide +kernel
theorem dX4_takeOut_46 : decode cX4_takeOut 46 = .ok (.iaload, 1) := by decide +kernel
theorem dX4_takeOut_47 : decode cX4_takeOut 47 = .ok (.iconst 1, 1) := by decide +kernel
theorem dX4_takeOut_48 : decode cX4_takeOut 48 = .ok (.isub, 1) := by decide +kernel
theorem dX4_takeOut_49 : decode cX4_takeOut 49 = .ok (.iastore, 1) := by decide +kernel
theorem dX4_takeOut_50 : decode cX4_takeOut 50 = .ok (.aload_n 0, 1) := by decide +kernel
theorem dX4_takeOut_51 : decode cX4_takeOut 51 = .ok (.getfield 25, 3) := by decide +kernel
theorem dX4_takeOut_54 : decode cX4_takeOut 54 = .ok (.iload_n 2, 1) := by decide +kernel
theorem dX4_takeOut_55 : decode cX4_takeOut 55 = .ok (.iaload, 1) := by decide +kernel
theorem dX4_takeOut_56 : decode cX4_takeOut 56 = .ok (.ifCond .ne 11, 3) := by decide +kernel
theorem dX4_takeOut_59 : decode cX4_takeOut 59 = .ok (.aload_n 0, 1) := by decide +kernel
theorem dX4_takeOut_60 : decode cX4_takeOut 60 = .ok (.iload_n 2, 1) := by decide +kernel
theorem dX4_takeOut_61 : decode cX4_takeOut 61 = .ok (.invokevirtual 79, 3) := by decide +kernel
theorem dX4_takeOut_64 : decode cX4_takeOut 64 = .ok (.goto 26, 3) := by decide +kernel
theorem dX4_takeOut_67 : decode cX4_takeOut 67 = .ok (.aload_n 0, 1) := by decide +kernel
theorem dX4_takeOut_68 : decode cX4_takeOut 68 = .ok (.getfield 25, 3) := by decide +kernel
theorem dX4_takeOut_71 : decode cX4_takeOut 71 = .ok (.iload_n 2, 1) := by decide +kernel
theorem dX4_takeOut_72 : decode cX4_takeOut 72 = .ok (.iaload, 1) := by decide +kernel
theorem dX4_takeOut_73 : decode cX4_takeOut 73 = .ok (.iconst 1, 1) := by decide +kernel
theorem dX4_takeOut_74 : decode cX4_takeOut 74 = .ok (.if_icmp .ne 16, 3) := by decide +kernel
theorem dX4_takeOut_77 : decode cX4_takeOut 77 = .ok (.aload_n 0, 1) := by decide +kernel
theorem dX4_takeOut_78 : decode cX4_takeOut 78 = .ok (.getfield 45, 3) := by decide +kernel
theorem dX4_takeOut_81 : decode cX4_takeOut 81 = .ok (.iconst 1, 1) := by decide +kernel
theorem dX4_takeOut_82 : decode cX4_takeOut 82 = .ok (.if_icmp .le 8, 3) := by decide +kernel
theorem dX4_takeOut_85 : decode cX4_takeOut 85 = .ok (.aload_n 0, 1) := by decide +kernel
theorem dX4_takeOut_86 : decode cX4_takeOut 86 = .ok (.iload_n 2, 1) := by decide +kernel
theorem dX4_takeOut_87 : decode cX4_takeOut 87 = .ok (.invokevirtual 85, 3) := by decide +kernel
theorem dX4_takeOut_90 : decode cX4_takeOut 90 = .ok (.aload_n 0, 1) := by decide +kernel
theorem dX4_takeOut_91 : decode cX4_takeOut 91 = .ok (.aload_n 0, 1) := by decide +kernel
theorem dX4_takeOut_92 : decode cX4_takeOut 92 = .ok (.getfield 28, 3) := by decide +kernel
theorem dX4_takeOut_95 : decode cX4_takeOut 95 = .ok (.aload_n 0, 1) := by decide +kernel
theorem dX4_takeOut_96 : decode cX4_takeOut 96 = .ok (.getfield 45, 3) := by decide +kernel
theorem dX4_takeOut_99 : decode cX4_takeOut 99 = .ok (.if_icmp .lt 7, 3) := by decide +kernel
theorem dX4_takeOut_102 : decode cX4_takeOut 102 = .ok (.iconst (-1), 1) := by decide +kernel
theorem dX4_takeOut_103 : decode cX4_takeOut 103 = .ok (.goto 7, 3) := by decide +kernel
theorem dX4_takeOut_106 : decode cX4_takeOut 106 = .ok (.aload_n 0, 1) := by decide +kernel
theorem dX4_takeOut_107 : decode cX4_takeOut 107 = .ok (.getfield 28, 3) := by decide +kernel
theorem dX4_takeOut_110 : decode cX4_takeOut 110 = .ok (.putfield 28, 3) := by decide +kernel
theorem dX4_takeOut_113 : decode cX4_takeOut 113 = .ok (.return_, 1) := by decide +kernel
set_option maxRecDepth 20000 in
theorem ggX4_payBack_X4_isCase : GoodIn wsX4_payBack wsX4_isCase := goodIn_r _ [7, 8, 9, 6, 10] (by decide +kernel) (by decide +kernel)
set_option maxRecDepth 20000 in
theorem gX4_payBack_X4_isCase : GoodIn wsX4_payBack (va_wsS RX4 56 yX4_isCase wsX4_isCase) := goodIn_app (goodIn_of _ (by decide +kernel)) ggX4_payBack_X4_isCase
set_option maxRecDepth 20000 in
theorem ggX4_payBack_X4_find : GoodIn wsX4_payBack wsX4_find := goodIn_r _ [14, 15, 16, 47, 48, 49, 50, 51, 52, 53, 54, 55, 56, 57, 58, 59, 60] (by decide +kernel) (by decide +kernel)
set_option maxRecDepth 20000 in
theorem gX4_payBack_X4_find : GoodIn wsX4_payBack (wsV RX4 60 RX4 yX4_find wsX4_find) := goodIn_app (goodIn_of _ (by decide +kernel)) ggX4_payBack_X4_find
set_option maxRecDepth 20000 in
theorem ggX4_payBack_X4_goesWell : GoodIn wsX4_payBack wsX4_goesWell := goodIn_r _ [20, 21, 47, 48, 49, 50, 51, 52, 53, 54, 55, 56, 57, 58, 59, 60] (by decide +kernel) (by decide +kernel)
set_option maxRecDepth 20000 in
theorem gX4_payBack_X4_goesWell : GoodIn wsX4_payBack (wsV RX4 63 RX4 yX4_goesWell wsX4_goesWell) := goodIn_app (goodIn_of _ (by decide +kernel)) ggX4_payBack_X4_goesWell
set_option maxRecDepth 20000 in
theorem ggX4_payBack_X4_takeOut : GoodIn wsX4_payBack wsX4_takeOut := goodIn_r _ [25, 15, 26, 27, 28, 29, 30, 31, 6, 32, 33, 34, 35, 36, 16, 2, 37, 38, 1, 39, 40, 41, 42, 43, 44, 45, 46, 47, 48, 49, 50, 51, 52, 53, 54, 55, 56, 57, 58, 59, 60] (by decide +kernel) (by decide +kernel)
set_option maxRecDepth 20000 in
theorem gX4_payBack_X4_takeOut : GoodIn wsX4_payBack (wsV RX4 91 RX4 yX4_takeOut wsX4_takeOut) := goodIn_app (goodIn_of _ (by decide +kernel)) ggX4_payBack_X4_takeOut
theorem dX4_payBack_0 : decode cX4_payBack 0 = .ok (.iload_n 1, 1) := by decide +kernel
theorem dX4_payBack_1 : decode cX4_payBack 1 = .ok (.invokestatic 56, 3) := by decide +kernel
theorem dX4_payBack_4 : decode cX4_payBack 4 = .ok (.ifCond .eq 11, 3) := by decide +kernel
theorem dX4_payBack_7 : decode cX4_payBack 7 = .ok (.aload_n 0, 1) := by decide +kernel
theorem dX4_payBack_8 : decode cX4_payBack 8 = .ok (.iload_n 1, 1) := by decide +kernel
theorem dX4_payBack_9 : decode cX4_payBack 9 = .ok (.invokevirtual 60, 3) := by decide +kernel
theorem dX4_payBack_12 : decode cX4_payBack 12 = .ok (.goto 4, 3) := by decide +kernel
theorem dX4_payBack_15 : decode cX4_payBack 15 = .ok (.iconst (-1), 1) := by decide +kernel
theorem dX4_payBack_16 : decode cX4_payBack 16 = .ok (.istore_n 2, 1) := by decide +kernel
theorem dX4_payBack_17 : decode cX4_payBack 17 = .ok (.aload_n 0, 1) := by decide +kernel
theorem dX4_payBack_18 : decode cX4_payBack 18 = .ok (.iload_n 1, 1) := by decide +kernel
theorem dX4_payBack_19 : decode cX4_payBack 19 = .ok (.invokestatic 56, 3) := by decide +kernel
theorem dX4_payBack_22 : decode cX4_payBack 22 = .ok (.ifCond .ne 7, 3) := by decide +kernel
theorem dX4_payBack_25 : decode cX4_payBack 25 = .ok (.iconst 1, 1) := by decide +kernel
theorem dX4_payBack_26 : decode cX4_payBack 26 = .ok (.goto 23, 3) := by decide +kernel
theorem dX4_payBack_29 : decode cX4_payBack 29 = .ok (.iload_n 2, 1) := by decide +kernel
theorem dX4_payBack_30 : decode cX4_payBack 30 = .ok (.iconst (-1), 1) := by decide +kernel
theorem dX4_payBack_31 : decode cX4_payBack 31 = .ok (.if_icmp .eq 13, 3) := by decide +kernel
theorem dX4_payBack_34 : decode cX4_payBack 34 = .ok (.aload_n 0, 1) := by decide +kernel
theorem dX4_payBack_35 : decode cX4_payBack 35 = .ok (.getfield 22, 3) := by decide +kernel
theorem dX4_payBack_38 : decode cX4_payBack 38 = .ok (.iload_n 2, 1) := by decide +kernel
theorem dX4_payBack_39 : decode cX4_payBack 39 = .ok (.iaload, 1) := by decide +kernel
theorem dX4_payBack_40 : decode cX4_payBack 40 = .ok (.iconst (-1), 1) := by decide +kernel
theorem dX4_payBack_41 : decode cX4_payBack 41 = .ok (.if_icmp .eq 7, 3) := by decide +kernel
theorem dX4_payBack_44 : decode cX4_payBack 44 = .ok (.iconst 2, 1) := by decide +kernel
theorem dX4_payBack_45 : decode cX4_payBack 45 = .ok (.goto 4, 3) := by decide +kernel
theorem dX4_payBack_48 : decode cX4_payBack 48 = .ok (.iconst 0, 1) := by decide +kernel
theorem dX4_payBack_49 : decode cX4_payBack 49 = .ok (.invokevirtual 63, 3) := by decide +kernel
theorem dX4_payBack_52 : decode cX4_payBack 52 = .ok (.ifCond .ne 5, 3) := by decide +kernel
theorem dX4_payBack_55 : decode cX4_payBack 55 = .ok (.iconst 0, 1) := by decide +kernel
theorem dX4_payBack_56 : decode cX4_payBack 56 = .ok (.ireturn, 1) := by decide +kernel
theorem dX4_payBack_57 : decode cX4_payBack 57 = .ok (.aload_n 0, 1) := by decide +kernel
theorem dX4_payBack_58 : decode cX4_payBack 58 = .ok (.getfield 13, 3) := by decide +kernel
theorem dX4_payBack_61 : decode cX4_payBack 61 = .ok (.iload_n 2, 1) := by decide +kernel
theorem dX4_payBack_62 : decode cX4_payBack 62 = .ok (.iaload, 1) := by decide +kernel
theorem dX4_payBack_63 : decode cX4_payBack 63 = .ok (.istore_n 3, 1) := by decide +kernel
theorem dX4_payBack_64 : decode cX4_payBack 64 = .ok (.aload_n 0, 1) := by decide +kernel
theorem dX4_payBack_65 : decode cX4_payBack 65 = .ok (.dup, 1) := by decide +kernel
theorem dX4_payBack_66 : decode cX4_payBack 66 = .ok (.getfield 88, 3) := by decide +kernel
theorem dX4_payBack_69 : decode cX4_payBack 69 = .ok (.iload_n 3, 1) := by decide +kernel
theorem dX4_payBack_70 : decode cX4_payBack 70 = .ok (.iadd, 1) := by decide +kernel
theorem dX4_payBack_71 : decode cX4_payBack 71 = .ok (.putfield 88, 3) := by decide +kernel
theorem dX4_payBack_74 : decode cX4_payBack 74 = .ok (.aload_n 0, 1) := by decide +kernel
theorem dX4_payBack_75 : decode cX4_payBack 75 = .ok (.iload_n 2, 1) := by decide +kernel
theorem dX4_payBack_76 : decode cX4_payBack 76 = .ok (.invokevirtual 91, 3) := by decide +kernel
theorem dX4_payBack_79 : decode cX4_payBack 79 = .ok (.iload_n 3, 1) := by decide +kernel
theorem dX4_payBack_80 : decode cX4_payBack 80 = .ok (.ireturn, 1) := by decide +kernel
set_option maxRecDepth 20000 in
theorem ggX4_forfeit_X4_isCase : GoodIn wsX4_forfeit wsX4_isCase := goodIn_r _ [6, 7, 8, 5, 9] (by decide +kernel) (by decide +kernel)
set_option maxRecDepth 20000 in
theorem gX4_forfeit_X4_isCase : GoodIn wsX4_forfeit (va_wsS RX4 56 yX4_isCase wsX4_isCase) := goodIn_app (goodIn_of _ (by decide +kernel)) ggX4_forfeit_X4_isCase
set_option maxRecDepth 20000 in
theorem ggX4_forfeit_X4_find : GoodIn wsX4_forfeit wsX4_find := goodIn_r _ [13, 14, 15, 21, 22, 23, 24, 25, 26, 27, 28, 29, 30, 31, 32, 33, 34] (by decide +kernel) (by decide +kernel)
set_option maxRecDepth 20000 in
theorem gX4_forfeit_X4_find : GoodIn wsX4_forfeit (wsV RX4 60 RX4 yX4_find wsX4_find) := goodIn_app (goodIn_of _ (by decide +kernel)) ggX4_forfeit_X4_find
set_option maxRecDepth 20000 in
theorem ggX4_forfeit_X4_goesWell : GoodIn wsX4_forfeit wsX4_goesWell := goodIn_r _ [19, 20, 21, 22, 23, 24, 25, 26, 27, 28, 29, 30, 31, 32, 33, 34] (by decide +kernel) (by decide +kernel)
set_option maxRecDepth 20000 in
theorem gX4_forfeit_X4_goesWell : GoodIn wsX4_forfeit (wsV RX4 63 RX4 yX4_goesWell wsX4_goesWell) := goodIn_app (goodIn_of _ (by decide +kernel)) ggX4_forfeit_X4_goesWell
theorem dX4_forfeit_0 : decode cX4_forfeit 0 = .ok (.iload_n 1, 1) := by decide +kernel
theorem dX4_forfeit_1 : decode cX4_forfeit 1 = .ok (.invokestatic 56, 3) := by decide +kernel
theorem dX4_forfeit_4 : decode cX4_forfeit 4 = .ok (.ifCond .eq 11, 3) := by decide +kernel
theorem dX4_forfeit_7 : decode cX4_forfeit 7 = .ok (.aload_n 0, 1) := by decide +kernel
theorem dX4_forfeit_8 : decode cX4_forfeit 8 = .ok (.iload_n 1, 1) := by decide +kernel
theorem dX4_forfeit_9 : decode cX4_forfeit 9 = .ok (.invokevirtual 60, 3) := by decide +kernel
theorem dX4_forfeit_12 : decode cX4_forfeit 12 = .ok (.goto 4, 3) := by decide +kernel
theorem dX4_forfeit_15 : decode cX4_forfeit 15 = .ok (.iconst (-1), 1) := by decide +kernel
theorem dX4_forfeit_16 : decode cX4_forfeit 16 = .ok (.istore_n 2, 1) := by decide +kernel
theorem dX4_forfeit_17 : decode cX4_forfeit 17 = .ok (.aload_n 0, 1) := by decide +kernel
theorem dX4_forfeit_18 : decode cX4_forfeit 18 = .ok (.iload_n 1, 1) := by decide +kernel
theorem dX4_forfeit_19 : decode cX4_forfeit 19 = .ok (.invokestatic 56, 3) := by decide +kernel
theorem dX4_forfeit_22 : decode cX4_forfeit 22 = .ok (.ifCond .ne 7, 3) := by decide +kernel
theorem dX4_forfeit_25 : decode cX4_forfeit 25 = .ok (.iconst 1, 1) := by decide +kernel
theorem dX4_forfeit_26 : decode cX4_forfeit 26 = .ok (.goto 23, 3) := by decide +kernel
theorem dX4_forfeit_29 : decode cX4_forfeit 29 = .ok (.iload_n 2, 1) := by decide +kernel
theorem dX4_forfeit_30 : decode cX4_forfeit 30 = .ok (.iconst (-1), 1) := by decide +kernel
theorem dX4_forfeit_31 : decode cX4_forfeit 31 = .ok (.if_icmp .eq 13, 3) := by decide +kernel
theorem dX4_forfeit_34 : decode cX4_forfeit 34 = .ok (.aload_n 0, 1) := by decide +kernel
theorem dX4_forfeit_35 : decode cX4_forfeit 35 = .ok (.getfield 22, 3) := by decide +kernel
theorem dX4_forfeit_38 : decode cX4_forfeit 38 = .ok (.iload_n 2, 1) := by decide +kernel
theorem dX4_forfeit_39 : decode cX4_forfeit 39 = .ok (.iaload, 1) := by decide +kernel
theorem dX4_forfeit_40 : decode cX4_forfeit 40 = .ok (.iconst (-1), 1) := by decide +kernel
theorem dX4_forfeit_41 : decode cX4_forfeit 41 = .ok (.if_icmp .eq 7, 3) := by decide +kernel
theorem dX4_forfeit_44 : decode cX4_forfeit 44 = .ok (.iconst 2, 1) := by decide +kernel
theorem dX4_forfeit_45 : decode cX4_forfeit 45 = .ok (.goto 4, 3) := by decide +kernel
theorem dX4_forfeit_48 : decode cX4_forfeit 48 = .ok (.iconst 0, 1) := by decide +kernel
theorem dX4_forfeit_49 : decode cX4_forfeit 49 = .ok (.invokevirtual 63, 3) := by decide +kernel
theorem dX4_forfeit_52 : decode cX4_forfeit 52 = .ok (.ifCond .eq 13, 3) := by decide +kernel
theorem dX4_forfeit_55 : decode cX4_forfeit 55 = .ok (.aload_n 0, 1) := by decide +kernel
theorem dX4_forfeit_56 : decode cX4_forfeit 56 = .ok (.getfield 22, 3) := by decide +kernel
theorem dX4_forfeit_59 : decode cX4_forfeit 59 = .ok (.iload_n 2, 1) := by decide +kernel
theorem dX4_forfeit_60 : decode cX4_forfeit 60 = .ok (.aload_n 0, 1) := by decide +kernel
theorem dX4_forfeit_61 : decode cX4_forfeit 61 = .ok (.getfield 76, 3) := by decide +kernel
theorem dX4_forfeit_64 : decode cX4_forfeit 64 = .ok (.iastore, 1) := by decide +kernel
theorem dX4_forfeit_65 : decode cX4_forfeit 65 = .ok (.return_, 1) := by decide +kernel
set_option maxRecDepth 20000 in
theorem ggX4_undo_X4_isCase : GoodIn wsX4_undo wsX4_isCase := goodIn_r _ [6, 7, 8, 5, 9] (by decide +kernel) (by decide +kernel)
set_option maxRecDepth 20000 in
theorem gX4_undo_X4_isCase : GoodIn wsX4_undo (va_wsS RX4 56 yX4_isCase wsX4_isCase) := goodIn_app (goodIn_of _ (by decide +kernel)) ggX4_undo_X4_isCase
set_option maxRecDepth 20000 in
theorem ggX4_undo_X4_find : GoodIn wsX4_undo wsX4_find := goodIn_r _ [13, 14, 15, 21, 22, 23, 24, 25, 26, 27, 28, 29, 30, 31, 32, 33, 34] (by decide +kernel) (by decide +kernel)
set_option maxRecDepth 20000 in
theorem gX4_undo_X4_find : GoodIn wsX4_undo (wsV RX4 60 RX4 yX4_find wsX4_find) := goodIn_app (goodIn_of _ (by decide +kernel)) ggX4_undo_X4_find
set_option maxRecDepth 20000 in
theorem ggX4_undo_X4_goesWell : GoodIn wsX4_undo wsX4_goesWell := goodIn_r _ [19, 20, 21, 22, 23, 24, 25, 26, 27, 28, 29, 30, 31, 32, 33, 34] (by decide +kernel) (by decide +kernel)
set_option maxRecDepth 20000 in
theorem gX4_undo_X4_goesWell : GoodIn wsX4_undo (wsV RX4 63 RX4 yX4_goesWell wsX4_goesWell) := goodIn_app (goodIn_of _ (by decide +kernel)) ggX4_undo_X4_goesWell
theorem dX4_undo_0 : decode cX4_undo 0 = .ok (.iload_n 1, 1) := by decide +kernel
theorem dX4_undo_1 : decode cX4_undo 1 = .ok (.invokestatic 56, 3) := by decide +kernel
theorem dX4_undo_4 : decode cX4_undo 4 = .ok (.ifCond .eq 11, 3) := by decide +kernel
theorem dX4_undo_7 : decode cX4_undo 7 = .ok (.aload_n 0, 1) := by decide +kernel
theorem dX4_undo_8 : decode cX4_undo 8 = .ok (.iload_n 1, 1) := by decide +kernel
theorem dX4_undo_9 : decode cX4_undo 9 = .ok (.invokevirtual 60, 3) := by decide +kernel
theorem dX4_undo_12 : decode cX4_undo 12 = .ok (.goto 4, 3) := by decide +kernel
theorem dX4_undo_15 : decode cX4_undo 15 = .ok (.iconst (-1), 1) := by decide +kernel
theorem dX4_undo_16 : decode cX4_undo 16 = .ok (.istore_n 2, 1) := by decide +kernel
theorem dX4_undo_17 : decode cX4_undo 17 = .ok (.aload_n 0, 1) := by decide +kernel
theorem dX4_undo_18 : decode cX4_undo 18 = .ok (.iload_n 1, 1) := by decide +kernel
theorem dX4_undo_19 : decode cX4_undo 19 = .ok (.invokestatic 56, 3) := by decide +kernel
theorem dX4_undo_22 : decode cX4_undo 22 = .ok (.ifCond .ne 7, 3) := by decide +kernel
theorem dX4_undo_25 : decode cX4_undo 25 = .ok (.iconst 1, 1) := by decide +kernel
theorem dX4_undo_26 : decode cX4_undo 26 = .ok (.goto 23, 3) := by decide +kernel
theorem dX4_undo_29 : decode cX4_undo 29 = .ok (.iload_n 2, 1) := by decide +kernel
theorem dX4_undo_30 : decode cX4_undo 30 = .ok (.iconst (-1), 1) := by decide +kernel
theorem dX4_undo_31 : decode cX4_undo 31 = .ok (.if_icmp .eq 13, 3) := by decide +kernel
theorem dX4_undo_34 : decode cX4_undo 34 = .ok (.aload_n 0, 1) := by decide +kernel
theorem dX4_undo_35 : decode cX4_undo 35 = .ok (.getfield 22, 3) := by decide +kernel
theorem dX4_undo_38 : decode cX4_undo 38 = .ok (.iload_n 2, 1) := by decide +kernel
theorem dX4_undo_39 : decode cX4_undo 39 = .ok (.iaload, 1) := by decide +kernel
theorem dX4_undo_40 : decode cX4_undo 40 = .ok (.iconst (-1), 1) := by decide +kernel
theorem dX4_undo_41 : decode cX4_undo 41 = .ok (.if_icmp .ne 7, 3) := by decide +kernel
theorem dX4_undo_44 : decode cX4_undo 44 = .ok (.iconst 2, 1) := by decide +kernel
theorem dX4_undo_45 : decode cX4_undo 45 = .ok (.goto 4, 3) := by decide +kernel
theorem dX4_undo_48 : decode cX4_undo 48 = .ok (.iconst 0, 1) := by decide +kernel
theorem dX4_undo_49 : decode cX4_undo 49 = .ok (.invokevirtual 63, 3) := by decide +kernel
theorem dX4_undo_52 : decode cX4_undo 52 = .ok (.ifCond .ne 5, 3) := by decide +kernel
theorem dX4_undo_55 : decode cX4_undo 55 = .ok (.iconst 0, 1) := by decide +kernel
theorem dX4_undo_56 : decode cX4_undo 56 = .ok (.ireturn, 1) := by decide +kernel
theorem dX4_undo_57 : decode cX4_undo 57 = .ok (.aload_n 0, 1) := by decide +kernel
theorem dX4_undo_58 : decode cX4_undo 58 = .ok (.getfield 76, 3) := by decide +kernel
theorem dX4_undo_61 : decode cX4_undo 61 = .ok (.aload_n 0, 1) := by decide +kernel
theorem dX4_undo_62 : decode cX4_undo 62 = .ok (.getfield 22, 3) := by decide +kernel
theorem dX4_undo_65 : decode cX4_undo 65 = .ok (.iload_n 2, 1) := by decide +kernel
theorem dX4_undo_66 : decode cX4_undo 66 = .ok (.iaload, 1) := by decide +kernel
theorem dX4_undo_67 : decode cX4_undo 67 = .ok (.isub, 1) := by decide +kernel
theorem dX4_undo_68 : decode cX4_undo 68 = .ok (.istore_n 3, 1) := by decide +kernel
theorem dX4_undo_69 : decode cX4_undo 69 = .ok (.aload_n 0, 1) := by decide +kernel
theorem dX4_undo_70 : decode cX4_undo 70 = .ok (.getfield 22, 3) := by decide +kernel
theorem dX4_undo_73 : decode cX4_undo 73 = .ok (.iload_n 2, 1) := by decide +kernel
theorem dX4_undo_74 : decode cX4_undo 74 = .ok (.iconst (-1), 1) := by decide +kernel
theorem dX4_undo_75 : decode cX4_undo 75 = .ok (.iastore, 1) := by decide +kernel
theorem dX4_undo_76 : decode cX4_undo 76 = .ok (.iload_n 3, 1) := by decide +kernel
theorem dX4_undo_77 : decode cX4_undo 77 = .ok (.ireturn, 1) := by decide +kernel
set_option maxRecDepth 20000 in
theorem ggX4_amnesty_X4_in : GoodIn wsX4_amnesty wsX4_in := goodIn_r _ [10] (by decide +kernel) (by decide +kernel)
set_option maxRecDepth 20000 in
theorem gX4_amnesty_X4_in : GoodIn wsX4_amnesty (va_wsS RX4 38 yX4_in wsX4_in) := goodIn_app (goodIn_of _ (by decide +kernel)) ggX4_amnesty_X4_in
set_option maxRecDepth 20000 in
theorem ggX4_amnesty_X4_goesWell : GoodIn wsX4_amnesty wsX4_goesWell := goodIn_r _ [14, 15, 41, 42, 43, 44, 45, 46, 47, 48, 49, 50, 51, 52, 53, 54] (by decide +kernel) (by decide +kernel)
set_option maxRecDepth 20000 in
theorem gX4_amnesty_X4_goesWell : GoodIn wsX4_amnesty (wsV RX4 63 RX4 yX4_goesWell wsX4_goesWell) := goodIn_app (goodIn_of _ (by decide +kernel)) ggX4_amnesty_X4_goesWell
set_option maxRecDepth 20000 in
theorem ggX4_amnesty_X4_takeOut : GoodIn wsX4_amnesty wsX4_takeOut := goodIn_r _ [19, 2, 20, 21, 22, 23, 24, 25, 9, 26, 27, 28, 29, 30, 31, 4, 32, 5, 3, 33, 34, 35, 36, 37, 38, 39, 40, 41, 42, 43, 44, 45, 46, 47, 48, 49, 50, 51, 52, 53, 54] (by decide +kernel) (by decide +kernel)
set_option maxRecDepth 20000 in
theorem gX4_amnesty_X4_takeOut : GoodIn wsX4_amnesty (wsV RX4 91 RX4 yX4_takeOut wsX4_takeOut) := goodIn_app (goodIn_of _ (by decide +kernel)) ggX4_amnesty_X4_takeOut
theorem dX4_amnesty_0 : decode cX4_amnesty 0 = .ok (.aload_n 0, 1) := by decide +kernel
theorem dX4_amnesty_1 : decode cX4_amnesty 1 = .ok (.iload_n 1, 1) := by decide +kernel
theorem dX4_amnesty_2 : decode cX4_amnesty 2 = .ok (.iconst 1, 1) := by decide +kernel
theorem dX4_amnesty_3 : decode cX4_amnesty 3 = .ok (.sipush 10000, 3) := by decide +kernel
theorem dX4_amnesty_6 : decode cX4_amnesty 6 = .ok (.invokestatic 38, 3) := by decide +kernel
theorem dX4_amnesty_9 : decode cX4_amnesty 9 = .ok (.ifCond .eq 19, 3) := by decide +kernel
theorem dX4_amnesty_12 : decode cX4_amnesty 12 = .ok (.iload_n 2, 1) := by decide +kernel
theorem dX4_amnesty_13 : decode cX4_amnesty 13 = .ok (.iconst 0, 1) := by decide +kernel
theorem dX4_amnesty_14 : decode cX4_amnesty 14 = .ok (.aload_n 0, 1) := by decide +kernel
theorem dX4_amnesty_15 : decode cX4_amnesty 15 = .ok (.getfield 76, 3) := by decide +kernel
theorem dX4_amnesty_18 : decode cX4_amnesty 18 = .ok (.invokestatic 38, 3) := by decide +kernel
theorem dX4_amnesty_21 : decode cX4_amnesty 21 = .ok (.ifCond .eq 7, 3) := by decide +kernel
theorem dX4_amnesty_24 : decode cX4_amnesty 24 = .ok (.iconst 0, 1) := by decide +kernel
theorem dX4_amnesty_25 : decode cX4_amnesty 25 = .ok (.goto 4, 3) := by decide +kernel
theorem dX4_amnesty_28 : decode cX4_amnesty 28 = .ok (.iconst 1, 1) := by decide +kernel
theorem dX4_amnesty_29 : decode cX4_amnesty 29 = .ok (.invokevirtual 63, 3) := by decide +kernel
theorem dX4_amnesty_32 : decode cX4_amnesty 32 = .ok (.ifCond .ne 5, 3) := by decide +kernel
theorem dX4_amnesty_35 : decode cX4_amnesty 35 = .ok (.iconst 0, 1) := by decide +kernel
theorem dX4_amnesty_36 : decode cX4_amnesty 36 = .ok (.ireturn, 1) := by decide +kernel
theorem dX4_amnesty_37 : decode cX4_amnesty 37 = .ok (.iconst 0, 1) := by decide +kernel
theorem dX4_amnesty_38 : decode cX4_amnesty 38 = .ok (.istore_n 3, 1) := by decide +kernel
theorem dX4_amnesty_39 : decode cX4_amnesty 39 = .ok (.iconst 0, 1) := by decide +kernel
theorem dX4_amnesty_40 : decode cX4_amnesty 40 = .ok (.istore 4, 2) := by decide +kernel
theorem dX4_amnesty_42 : decode cX4_amnesty 42 = .ok (.iload 4, 2) := by decide +kernel
theorem dX4_amnesty_44 : decode cX4_amnesty 44 = .ok (.aload_n 0, 1) := by decide +kernel
theorem dX4_amnesty_45 : decode cX4_amnesty 45 = .ok (.getfield 42, 3) := by decide +kernel
theorem dX4_amnesty_48 : decode cX4_amnesty 48 = .ok (.if_icmp .ge 70, 3) := by decide +kernel
theorem dX4_amnesty_51 : decode cX4_amnesty 51 = .ok (.aload_n 0, 1) := by decide +kernel
theorem dX4_amnesty_52 : decode cX4_amnesty 52 = .ok (.getfield 22, 3) := by decide +kernel
theorem dX4_amnesty_55 : decode cX4_amnesty 55 = .ok (.iload 4, 2) := by decide +kernel
theorem dX4_amnesty_57 : decode cX4_amnesty 57 = .ok (.iaload, 1) := by decide +kernel
theorem dX4_amnesty_58 : decode cX4_amnesty 58 = .ok (.iconst (-1), 1) := by decide +kernel
theorem dX4_amnesty_59 : decode cX4_amnesty 59 = .ok (.if_icmp .ne 53, 3) := by decide +kernel
theorem dX4_amnesty_62 : decode cX4_amnesty 62 = .ok (.aload_n 0, 1) := by decide +kernel
theorem dX4_amnesty_63 : decode cX4_amnesty 63 = .ok (.getfield 13, 3) := by decide +kernel
theorem dX4_amnesty_66 : decode cX4_amnesty 66 = .ok (.iload 4, 2) := by decide +kernel
theorem dX4_amnesty_68 : decode cX4_amnesty 68 = .ok (.iaload, 1) := by decide +kernel
theorem dX4_amnesty_69 : decode cX4_amnesty 69 = .ok (.iload_n 1, 1) := by decide +kernel
theorem dX4_amnesty_70 : decode cX4_amnesty 70 = .ok (.if_icmp .gt 42, 3) := by decide +kernel
theorem dX4_amnesty_73 : decode cX4_amnesty 73 = .ok (.aload_n 0, 1) := by decide +kernel
theorem dX4_amnesty_74 : decode cX4_amnesty 74 = .ok (.getfield 19, 3) := by decide +kernel
theorem dX4_amnesty_77 : decode cX4_amnesty 77 = .ok (.iload 4, 2) := by decide +kernel
theorem dX4_amnesty_79 : decode cX4_amnesty 79 = .ok (.iaload, 1) := by decide +kernel
theorem dX4_amnesty_80 : decode cX4_amnesty 80 = .ok (.iload_n 2, 1) := by decide +kernel
theorem dX4_amnesty_81 : decode cX4_amnesty 81 = .ok (.if_icmp .gt 31, 3) := by decide +kernel
theorem dX4_amnesty_84 : decode cX4_amnesty 84 = .ok (.aload_n 0, 1) := by decide +kernel
theorem dX4_amnesty_85 : decode cX4_amnesty 85 = .ok (.dup, 1) := by decide +kernel
theorem dX4_amnesty_86 : decode cX4_amnesty 86 = .ok (.getfield 88, 3) := by decide +kernel
theorem dX4_amnesty_89 : decode cX4_amnesty 89 = .ok (.aload_n 0, 1) := by decide +kernel
theorem dX4_amnesty_90 : decode cX4_amnesty 90 = .ok (.getfield 13, 3) := by decide +kernel
theorem dX4_amnesty_93 : decode cX4_amnesty 93 = .ok (.iload 4, 2) := by decide +kernel
theorem dX4_amnesty_95 : decode cX4_amnesty 95 = .ok (.iaload, 1) := by decide +kernel
theorem dX4_amnesty_96 : decode cX4_amnesty 96 = .ok (.iadd, 1) := by decide +kernel
theorem dX4_amnesty_97 : decode cX4_amnesty 97 = .ok (.putfield 88, 3) := by decide +kernel
theorem dX4_amnesty_100 : decode cX4_amnesty 100 = .ok (.aload_n 0, 1) := by decide +kernel
theorem dX4_amnesty_101 : decode cX4_amnesty 101 = .ok (.iload 4, 2) := by decide +kernel
theorem dX4_amnesty_103 : decode cX4_amnesty 103 = .ok (.invokevirtual 91, 3) := by decide +kernel
theorem dX4_amnesty_106 : decode cX4_amnesty 106 = .ok (.iinc 3 1, 3) := by decide +kernel
theorem dX4_amnesty_109 : decode cX4_amnesty 109 = .ok (.goto (-67), 3) := by decide +kernel
theorem dX4_amnesty_112 : decode cX4_amnesty 112 = .ok (.iinc 4 1, 3) := by decide +kernel
theorem dX4_amnesty_115 : decode cX4_amnesty 115 = .ok (.goto (-73), 3) := by decide +kernel
theorem dX4_amnesty_118 : decode cX4_amnesty 118 = .ok (.iload_n 3, 1) := by decide +kernel
theorem dX4_amnesty_119 : decode cX4_amnesty 119 = .ok (.ireturn, 1) := by decide +kernel
theorem dX4_records_0 : decode cX4_records 0 = .ok (.aload_n 0, 1) := by decide +kernel
theorem dX4_records_1 : decode cX4_records 1 = .ok (.iconst 0, 1) := by decide +kernel
theorem dX4_records_2 : decode cX4_records 2 = .ok (.putfield 35, 3) := by decide +kernel
theorem dX4_records_5 : decode cX4_records 5 = .ok (.aload_n 0, 1) := by decide +kernel
theorem dX4_records_6 : decode cX4_records 6 = .ok (.getfield 42, 3) := by decide +kernel
theorem dX4_records_9 : decode cX4_records 9 = .ok (.ireturn, 1) := by decide +kernel
set_option maxRecDepth 20000 in
theorem ggX4_sum_X4_isCase : GoodIn wsX4_sum wsX4_isCase := goodIn_r _ [5, 6, 7, 4, 8] (by decide +kernel) (by decide +kernel)
set_option maxRecDepth 20000 in
theorem gX4_sum_X4_isCase : GoodIn wsX4_sum (va_wsS RX4 56 yX4_isCase wsX4_isCase) := goodIn_app (goodIn_of _ (by decide +kernel)) ggX4_sum_X4_isCase
set_option maxRecDepth 20000 in
theorem ggX4_sum_X4_find : GoodIn wsX4_sum wsX4_find := goodIn_r _ [12, 13, 14, 20, 21, 22, 23, 24, 25, 26, 27, 28, 29, 30, 31, 32, 33] (by decide +kernel) (by decide +kernel)
set_option maxRecDepth 20000 in
theorem gX4_sum_X4_find : GoodIn wsX4_sum (wsV RX4 60 RX4 yX4_find wsX4_find) := goodIn_app (goodIn_of _ (by decide +kernel)) ggX4_sum_X4_find
set_option maxRecDepth 20000 in
theorem ggX4_sum_X4_goesWell : GoodIn wsX4_sum wsX4_goesWell := goodIn_r _ [18, 19, 20, 21, 22, 23, 24, 25, 26, 27, 28, 29, 30, 31, 32, 33] (by decide +kernel) (by decide +kernel)
set_option maxRecDepth 20000 in
theorem gX4_sum_X4_goesWell : GoodIn wsX4_sum (wsV RX4 63 RX4 yX4_goesWell wsX4_goesWell) := goodIn_app (goodIn_of _ (by decide +kernel)) ggX4_sum_X4_goesWell
theorem dX4_sum_0 : decode cX4_sum 0 = .ok (.iload_n 1, 1) := by decide +kernel
theorem dX4_sum_1 : decode cX4_sum 1 = .ok (.invokestatic 56, 3) := by decide +kernel
theorem dX4_sum_4 : decode cX4_sum 4 = .ok (.ifCond .eq 11, 3) := by decide +kernel
theorem dX4_sum_7 : decode cX4_sum 7 = .ok (.aload_n 0, 1) := by decide +kernel
theorem dX4_sum_8 : decode cX4_sum 8 = .ok (.iload_n 1, 1) := by decide +kernel
theorem dX4_sum_9 : decode cX4_sum 9 = .ok (.invokevirtual 60, 3) := by decide +kernel
theorem dX4_sum_12 : decode cX4_sum 12 = .ok (.goto 4, 3) := by decide +kernel
theorem dX4_sum_15 : decode cX4_sum 15 = .ok (.iconst (-1), 1) := by decide +kernel
theorem dX4_sum_16 : decode cX4_sum 16 = .ok (.istore_n 2, 1) := by decide +kernel
theorem dX4_sum_17 : decode cX4_sum 17 = .ok (.aload_n 0, 1) := by decide +kernel
theorem dX4_sum_18 : decode cX4_sum 18 = .ok (.iload_n 1, 1) := by decide +kernel
theorem dX4_sum_19 : decode cX4_sum 19 = .ok (.invokestatic 56, 3) := by decide +kernel
theorem dX4_sum_22 : decode cX4_sum 22 = .ok (.ifCond .eq 7, 3) := by decide +kernel
theorem dX4_sum_25 : decode cX4_sum 25 = .ok (.iconst 0, 1) := by decide +kernel
theorem dX4_sum_26 : decode cX4_sum 26 = .ok (.goto 4, 3) := by decide +kernel
theorem dX4_sum_29 : decode cX4_sum 29 = .ok (.iconst 1, 1) := by decide +kernel
theorem dX4_sum_30 : decode cX4_sum 30 = .ok (.invokevirtual 63, 3) := by decide +kernel
theorem dX4_sum_33 : decode cX4_sum 33 = .ok (.ifCond .eq 17, 3) := by decide +kernel
theorem dX4_sum_36 : decode cX4_sum 36 = .ok (.iload_n 2, 1) := by decide +kernel
theorem dX4_sum_37 : decode cX4_sum 37 = .ok (.iconst (-1), 1) := by decide +kernel
theorem dX4_sum_38 : decode cX4_sum 38 = .ok (.if_icmp .eq 12, 3) := by decide +kernel
theorem dX4_sum_41 : decode cX4_sum 41 = .ok (.aload_n 0, 1) := by decide +kernel
theorem dX4_sum_42 : decode cX4_sum 42 = .ok (.getfield 13, 3) := by decide +kernel
theorem dX4_sum_45 : decode cX4_sum 45 = .ok (.iload_n 2, 1) := by decide +kernel
theorem dX4_sum_46 : decode cX4_sum 46 = .ok (.iaload, 1) := by decide +kernel
theorem dX4_sum_47 : decode cX4_sum 47 = .ok (.goto 4, 3) := by decide +kernel
theorem dX4_sum_50 : decode cX4_sum 50 = .ok (.iconst 0, 1) := by decide +kernel
theorem dX4_sum_51 : decode cX4_sum 51 = .ok (.ireturn, 1) := by decide +kernel
set_option maxRecDepth 20000 in
theorem ggX4_isForfeited_X4_isCase : GoodIn wsX4_isForfeited wsX4_isCase := goodIn_r _ [5, 6, 7, 4, 8] (by decide +kernel) (by decide +kernel)
set_option maxRecDepth 20000 in
theorem gX4_isForfeited_X4_isCase : GoodIn wsX4_isForfeited (va_wsS RX4 56 yX4_isCase wsX4_isCase) := goodIn_app (goodIn_of _ (by decide +kernel)) ggX4_isForfeited_X4_isCase
set_option maxRecDepth 20000 in
theorem ggX4_isForfeited_X4_find : GoodIn wsX4_isForfeited wsX4_find := goodIn_r _ [12, 13, 14, 20, 21, 22, 23, 24, 25, 26, 27, 28, 29, 30, 31, 32, 33] (by decide +kernel) (by decide +kernel)
set_option maxRecDepth 20000 in
theorem gX4_isForfeited_X4_find : GoodIn wsX4_isForfeited (wsV RX4 60 RX4 yX4_find wsX4_find) := goodIn_app (goodIn_of _ (by decide +kernel)) ggX4_isForfeited_X4_find
set_option maxRecDepth 20000 in
theorem ggX4_isForfeited_X4_goesWell : GoodIn wsX4_isForfeited wsX4_goesWell := goodIn_r _ [18, 19, 20, 21, 22, 23, 24, 25, 26, 27, 28, 29, 30, 31, 32, 33] (by decide +kernel) (by decide +kernel)
set_option maxRecDepth 20000 in
theorem gX4_isForfeited_X4_goesWell : GoodIn wsX4_isForfeited (wsV RX4 63 RX4 yX4_goesWell wsX4_goesWell) := goodIn_app (goodIn_of _ (by decide +kernel)) ggX4_isForfeited_X4_goesWell
theorem dX4_isForfeited_0 : decode cX4_isForfeited 0 = .ok (.iload_n 1, 1) := by decide +kernel
theorem dX4_isForfeited_1 : decode cX4_isForfeited 1 = .ok (.invokestatic 56, 3) := by decide +kernel
theorem dX4_isForfeited_4 : decode cX4_isForfeited 4 = .ok (.ifCond .eq 11, 3) := by decide +kernel
theorem dX4_isForfeited_7 : decode cX4_isForfeited 7 = .ok (.aload_n 0, 1) := by decide +kernel
theorem dX4_isForfeited_8 : decode cX4_isForfeited 8 = .ok (.iload_n 1, 1) := by decide +kernel
theorem dX4_isForfeited_9 : decode cX4_isForfeited 9 = .ok (.invokevirtual 60, 3) := by decide +kernel
theorem dX4_isForfeited_12 : decode cX4_isForfeited 12 = .ok (.goto 4, 3) := by decide +kernel
theorem dX4_isForfeited_15 : decode cX4_isForfeited 15 = .ok (.iconst (-1), 1) := by decide +kernel
theorem dX4_isForfeited_16 : decode cX4_isForfeited 16 = .ok (.istore_n 2, 1) := by decide +kernel
theorem dX4_isForfeited_17 : decode cX4_isForfeited 17 = .ok (.aload_n 0, 1) := by decide +kernel
theorem dX4_isForfeited_18 : decode cX4_isForfeited 18 = .ok (.iload_n 1, 1) := by decide +kernel
theorem dX4_isForfeited_19 : decode cX4_isForfeited 19 = .ok (.invokestatic 56, 3) := by decide +kernel
theorem dX4_isForfeited_22 : decode cX4_isForfeited 22 = .ok (.ifCond .eq 7, 3) := by decide +kernel
theorem dX4_isForfeited_25 : decode cX4_isForfeited 25 = .ok (.iconst 0, 1) := by decide +kernel
theorem dX4_isForfeited_26 : decode cX4_isForfeited 26 = .ok (.goto 4, 3) := by decide +kernel
theorem dX4_isForfeited_29 : decode cX4_isForfeited 29 = .ok (.iconst 1, 1) := by decide +kernel
theorem dX4_isForfeited_30 : decode cX4_isForfeited 30 = .ok (.invokevirtual 63, 3) := by decide +kernel
theorem dX4_isForfeited_33 : decode cX4_isForfeited 33 = .ok (.ifCond .eq 22, 3) := by decide +kernel
theorem dX4_isForfeited_36 : decode cX4_isForfeited 36 = .ok (.iload_n 2, 1) := by decide +kernel
theorem dX4_isForfeited_37 : decode cX4_isForfeited 37 = .ok (.iconst (-1), 1) := by decide +kernel
theorem dX4_isForfeited_38 : decode cX4_isForfeited 38 = .ok (.if_icmp .eq 17, 3) := by decide +kernel
theorem dX4_isForfeited_41 : decode cX4_isForfeited 41 = .ok (.aload_n 0, 1) := by decide +kernel
theorem dX4_isForfeited_42 : decode cX4_isForfeited 42 = .ok (.getfield 22, 3) := by decide +kernel
theorem dX4_isForfeited_45 : decode cX4_isForfeited 45 = .ok (.iload_n 2, 1) := by decide +kernel
theorem dX4_isForfeited_46 : decode cX4_isForfeited 46 = .ok (.iaload, 1) := by decide +kernel
theorem dX4_isForfeited_47 : decode cX4_isForfeited 47 = .ok (.iconst (-1), 1) := by decide +kernel
theorem dX4_isForfeited_48 : decode cX4_isForfeited 48 = .ok (.if_icmp .eq 7, 3) := by decide +kernel
theorem dX4_isForfeited_51 : decode cX4_isForfeited 51 = .ok (.iconst 1, 1) := by decide +kernel
theorem dX4_isForfeited_52 : decode cX4_isForfeited 52 = .ok (.goto 4, 3) := by decide +kernel
theorem dX4_isForfeited_55 : decode cX4_isForfeited 55 = .ok (.iconst 0, 1) := by decide +kernel
theorem dX4_isForfeited_56 : decode cX4_isForfeited 56 = .ok (.ireturn, 1) := by decide +kernel
set_option maxRecDepth 20000 in
theorem ggX4_heldBy_X4_in : GoodIn wsX4_heldBy wsX4_in := goodIn_r _ [7] (by decide +kernel) (by decide +kernel)
set_option maxRecDepth 20000 in
theorem gX4_heldBy_X4_in : GoodIn wsX4_heldBy (va_wsS RX4 38 yX4_in wsX4_in) := goodIn_app (goodIn_of _ (by decide +kernel)) ggX4_heldBy_X4_in
set_option maxRecDepth 20000 in
theorem ggX4_heldBy_X4_goesWell : GoodIn wsX4_heldBy wsX4_goesWell := goodIn_r _ [11, 12, 13, 14, 15, 16, 17, 18, 19, 20, 21, 22, 23, 24, 25, 26] (by decide +kernel) (by decide +kernel)
set_option maxRecDepth 20000 in
theorem gX4_heldBy_X4_goesWell : GoodIn wsX4_heldBy (wsV RX4 63 RX4 yX4_goesWell wsX4_goesWell) := goodIn_app (goodIn_of _ (by decide +kernel)) ggX4_heldBy_X4_goesWell
theorem dX4_heldBy_0 : decode cX4_heldBy 0 = .ok (.aload_n 0, 1) := by decide +kernel
theorem dX4_heldBy_1 : decode cX4_heldBy 1 = .ok (.iload_n 1, 1) := by decide +kernel
theorem dX4_heldBy_2 : decode cX4_heldBy 2 = .ok (.iconst 0, 1) := by decide +kernel
theorem dX4_heldBy_3 : decode cX4_heldBy 3 = .ok (.bipush 9, 2) := by decide +kernel
theorem dX4_heldBy_5 : decode cX4_heldBy 5 = .ok (.invokestatic 38, 3) := by decide +kernel
theorem dX4_heldBy_8 : decode cX4_heldBy 8 = .ok (.ifCond .eq 7, 3) := by decide +kernel
theorem dX4_heldBy_11 : decode cX4_heldBy 11 = .ok (.iconst 0, 1) := by decide +kernel
theorem dX4_heldBy_12 : decode cX4_heldBy 12 = .ok (.goto 4, 3) := by decide +kernel
theorem dX4_heldBy_15 : decode cX4_heldBy 15 = .ok (.iconst 1, 1) := by decide +kernel
theorem dX4_heldBy_16 : decode cX4_heldBy 16 = .ok (.invokevirtual 63, 3) := by decide +kernel
theorem dX4_heldBy_19 : decode cX4_heldBy 19 = .ok (.ifCond .ne 5, 3) := by decide +kernel
theorem dX4_heldBy_22 : decode cX4_heldBy 22 = .ok (.iconst 0, 1) := by decide +kernel
theorem dX4_heldBy_23 : decode cX4_heldBy 23 = .ok (.ireturn, 1) := by decide +kernel
theorem dX4_heldBy_24 : decode cX4_heldBy 24 = .ok (.iconst 0, 1) := by decide +kernel
theorem dX4_heldBy_25 : decode cX4_heldBy 25 = .ok (.istore_n 2, 1) := by decide +kernel
theorem dX4_heldBy_26 : decode cX4_heldBy 26 = .ok (.iconst 0, 1) := by decide +kernel
theorem dX4_heldBy_27 : decode cX4_heldBy 27 = .ok (.istore_n 3, 1) := by decide +kernel
theorem dX4_heldBy_28 : decode cX4_heldBy 28 = .ok (.iload_n 3, 1) := by decide +kernel
theorem dX4_heldBy_29 : decode cX4_heldBy 29 = .ok (.aload_n 0, 1) := by decide +kernel
theorem dX4_heldBy_30 : decode cX4_heldBy 30 = .ok (.getfield 42, 3) := by decide +kernel
theorem dX4_heldBy_33 : decode cX4_heldBy 33 = .ok (.if_icmp .ge 32, 3) := by decide +kernel
theorem dX4_heldBy_36 : decode cX4_heldBy 36 = .ok (.iload_n 2, 1) := by decide +kernel
theorem dX4_heldBy_37 : decode cX4_heldBy 37 = .ok (.aload_n 0, 1) := by decide +kernel
theorem dX4_heldBy_38 : decode cX4_heldBy 38 = .ok (.getfield 16, 3) := by decide +kernel
theorem dX4_heldBy_41 : decode cX4_heldBy 41 = .ok (.iload_n 3, 1) := by decide +kernel
theorem dX4_heldBy_42 : decode cX4_heldBy 42 = .ok (.iaload, 1) := by decide +kernel
theorem dX4_heldBy_43 : decode cX4_heldBy 43 = .ok (.iload_n 1, 1) := by decide +kernel
theorem dX4_heldBy_44 : decode cX4_heldBy 44 = .ok (.if_icmp .ne 12, 3) := by decide +kernel
theorem dX4_heldBy_47 : decode cX4_heldBy 47 = .ok (.aload_n 0, 1) := by decide +kernel
theorem dX4_heldBy_48 : decode cX4_heldBy 48 = .ok (.getfield 13, 3) := by decide +kernel
theorem dX4_heldBy_51 : decode cX4_heldBy 51 = .ok (.iload_n 3, 1) := by decide +kernel
theorem dX4_heldBy_52 : decode cX4_heldBy 52 = .ok (.iaload, 1) := by decide +kernel
theorem dX4_heldBy_53 : decode cX4_heldBy 53 = .ok (.goto 4, 3) := by decide +kernel
theorem dX4_heldBy_56 : decode cX4_heldBy 56 = .ok (.iconst 0, 1) := by decide +kernel
theorem dX4_heldBy_57 : decode cX4_heldBy 57 = .ok (.iadd, 1) := by decide +kernel
theorem dX4_heldBy_58 : decode cX4_heldBy 58 = .ok (.istore_n 2, 1) := by decide +kernel
theorem dX4_heldBy_59 : decode cX4_heldBy 59 = .ok (.iinc 3 1, 3) := by decide +kernel
theorem dX4_heldBy_62 : decode cX4_heldBy 62 = .ok (.goto (-34), 3) := by decide +kernel
theorem dX4_heldBy_65 : decode cX4_heldBy 65 = .ok (.iload_n 2, 1) := by decide +kernel
theorem dX4_heldBy_66 : decode cX4_heldBy 66 = .ok (.ireturn, 1) := by decide +kernel
theorem dX4_kept_0 : decode cX4_kept 0 = .ok (.aload_n 0, 1) := by decide +kernel
theorem dX4_kept_1 : decode cX4_kept 1 = .ok (.iconst 0, 1) := by decide +kernel
theorem dX4_kept_2 : decode cX4_kept 2 = .ok (.putfield 35, 3) := by decide +kernel
theorem dX4_kept_5 : decode cX4_kept 5 = .ok (.aload_n 0, 1) := by decide +kernel
theorem dX4_kept_6 : decode cX4_kept 6 = .ok (.getfield 94, 3) := by decide +kernel
theorem dX4_kept_9 : decode cX4_kept 9 = .ok (.ireturn, 1) := by decide +kernel
theorem dX4_paidBack_0 : decode cX4_paidBack 0 = .ok (.aload_n 0, 1) := by decide +kernel
theorem dX4_paidBack_1 : decode cX4_paidBack 1 = .ok (.iconst 0, 1) := by decide +kernel
theorem dX4_paidBack_2 : decode cX4_paidBack 2 = .ok (.putfield 35, 3) := by decide +kernel
theorem dX4_paidBack_5 : decode cX4_paidBack 5 = .ok (.aload_n 0, 1) := by decide +kernel
theorem dX4_paidBack_6 : decode cX4_paidBack 6 = .ok (.getfield 88, 3) := by decide +kernel
theorem dX4_paidBack_9 : decode cX4_paidBack 9 = .ok (.ireturn, 1) := by decide +kernel
set_option maxRecDepth 20000 in
theorem ggX4_pass_X4_in : GoodIn wsX4_pass wsX4_in := goodIn_r _ [9] (by decide +kernel) (by decide +kernel)
set_option maxRecDepth 20000 in
theorem gX4_pass_X4_in : GoodIn wsX4_pass (va_wsS RX4 38 yX4_in wsX4_in) := goodIn_app (goodIn_of _ (by decide +kernel)) ggX4_pass_X4_in
set_option maxRecDepth 20000 in
theorem ggX4_pass_X4_goesWell : GoodIn wsX4_pass wsX4_goesWell := goodIn_r _ [13, 14, 41, 42, 43, 44, 45, 46, 47, 48, 49, 50, 51, 52, 53, 54] (by decide +kernel) (by decide +kernel)
set_option maxRecDepth 20000 in
theorem gX4_pass_X4_goesWell : GoodIn wsX4_pass (wsV RX4 63 RX4 yX4_goesWell wsX4_goesWell) := goodIn_app (goodIn_of _ (by decide +kernel)) ggX4_pass_X4_goesWell
set_option maxRecDepth 20000 in
theorem ggX4_pass_X4_takeOut : GoodIn wsX4_pass wsX4_takeOut := goodIn_r _ [18, 2, 19, 20, 21, 22, 23, 24, 8, 25, 26, 27, 28, 29, 30, 5, 31, 32, 3, 33, 34, 35, 36, 37, 38, 39, 40, 41, 42, 43, 44, 45, 46, 47, 48, 49, 50, 51, 52, 53, 54] (by decide +kernel) (by decide +kernel)
set_option maxRecDepth 20000 in
theorem gX4_pass_X4_takeOut : GoodIn wsX4_pass (wsV RX4 91 RX4 yX4_takeOut wsX4_takeOut) := goodIn_app (goodIn_of _ (by decide +kernel)) ggX4_pass_X4_takeOut
theorem dX4_pass_0 : decode cX4_pass 0 = .ok (.iload_n 1, 1) := by decide +kernel
theorem dX4_pass_1 : decode cX4_pass 1 = .ok (.iconst 1, 1) := by decide +kernel
theorem dX4_pass_2 : decode cX4_pass 2 = .ok (.bipush 100, 2) := by decide +kernel
theorem dX4_pass_4 : decode cX4_pass 4 = .ok (.invokestatic 38, 3) := by decide +kernel
theorem dX4_pass_7 : decode cX4_pass 7 = .ok (.istore_n 2, 1) := by decide +kernel
theorem dX4_pass_8 : decode cX4_pass 8 = .ok (.aload_n 0, 1) := by decide +kernel
theorem dX4_pass_9 : decode cX4_pass 9 = .ok (.iload_n 2, 1) := by decide +kernel
theorem dX4_pass_10 : decode cX4_pass 10 = .ok (.ifCond .ne 7, 3) := by decide +kernel
theorem dX4_pass_13 : decode cX4_pass 13 = .ok (.iconst 1, 1) := by decide +kernel
theorem dX4_pass_14 : decode cX4_pass 14 = .ok (.goto 20, 3) := by decide +kernel
theorem dX4_pass_17 : decode cX4_pass 17 = .ok (.aload_n 0, 1) := by decide +kernel
theorem dX4_pass_18 : decode cX4_pass 18 = .ok (.getfield 76, 3) := by decide +kernel
theorem dX4_pass_21 : decode cX4_pass 21 = .ok (.iload_n 1, 1) := by decide +kernel
theorem dX4_pass_22 : decode cX4_pass 22 = .ok (.iadd, 1) := by decide +kernel
theorem dX4_pass_23 : decode cX4_pass 23 = .ok (.sipush 5000, 3) := by decide +kernel
theorem dX4_pass_26 : decode cX4_pass 26 = .ok (.if_icmp .le 7, 3) := by decide +kernel
theorem dX4_pass_29 : decode cX4_pass 29 = .ok (.iconst 2, 1) := by decide +kernel
theorem dX4_pass_30 : decode cX4_pass 30 = .ok (.goto 4, 3) := by decide +kernel
theorem dX4_pass_33 : decode cX4_pass 33 = .ok (.iconst 0, 1) := by decide +kernel
theorem dX4_pass_34 : decode cX4_pass 34 = .ok (.invokevirtual 63, 3) := by decide +kernel
theorem dX4_pass_37 : decode cX4_pass 37 = .ok (.ifCond .ne 5, 3) := by decide +kernel
theorem dX4_pass_40 : decode cX4_pass 40 = .ok (.iconst 0, 1) := by decide +kernel
theorem dX4_pass_41 : decode cX4_pass 41 = .ok (.ireturn, 1) := by decide +kernel
theorem dX4_pass_42 : decode cX4_pass 42 = .ok (.iconst 0, 1) := by decide +kernel
theorem dX4_pass_43 : decode cX4_pass 43 = .ok (.istore_n 3, 1) := by decide +kernel
theorem dX4_pass_44 : decode cX4_pass 44 = .ok (.iconst 0, 1) := by decide +kernel
theorem dX4_pass_45 : decode cX4_pass 45 = .ok (.istore 4, 2) := by decide +kernel
theorem dX4_pass_47 : decode cX4_pass 47 = .ok (.iload 4, 2) := by decide +kernel
theorem dX4_pass_49 : decode cX4_pass 49 = .ok (.iload_n 1, 1) := by decide +kernel
theorem dX4_pass_50 : decode cX4_pass 50 = .ok (.if_icmp .ge 93, 3) := by decide +kernel
theorem dX4_pass_53 : decode cX4_pass 53 = .ok (.aload_n 0, 1) := by decide +kernel
theorem dX4_pass_54 : decode cX4_pass 54 = .ok (.dup, 1) := by decide +kernel
theorem dX4_pass_55 : decode cX4_pass 55 = .ok (.getfield 76, 3) := by decide +kernel
theorem dX4_pass_58 : decode cX4_pass 58 = .ok (.iconst 1, 1) := by decide +kernel
theorem dX4_pass_59 : decode cX4_pass 59 = .ok (.iadd, 1) := by decide +kernel
theorem dX4_pass_60 : decode cX4_pass 60 = .ok (.putfield 76, 3) := by decide +kernel
theorem dX4_pass_63 : decode cX4_pass 63 = .ok (.iconst 0, 1) := by decide +kernel
theorem dX4_pass_64 : decode cX4_pass 64 = .ok (.istore 5, 2) := by decide +kernel
theorem dX4_pass_66 : decode cX4_pass 66 = .ok (.iload 5, 2) := by decide +kernel
theorem dX4_pass_68 : decode cX4_pass 68 = .ok (.aload_n 0, 1) := by decide +kernel
theorem dX4_pass_69 : decode cX4_pass 69 = .ok (.getfield 42, 3) := by decide +kernel
theorem dX4_pass_72 : decode cX4_pass 72 = .ok (.if_icmp .ge 65, 3) := by decide +kernel
theorem dX4_pass_75 : decode cX4_pass 75 = .ok (.aload_n 0, 1) := by decide +kernel
theorem dX4_pass_76 : decode cX4_pass 76 = .ok (.getfield 22, 3) := by decide +kernel
theorem dX4_pass_79 : decode cX4_pass 79 = .ok (.iload 5, 2) := by decide +kernel
theorem dX4_pass_81 : decode cX4_pass 81 = .ok (.iaload, 1) := by decide +kernel
theorem dX4_pass_82 : decode cX4_pass 82 = .ok (.iconst (-1), 1) := by decide +kernel
theorem dX4_pass_83 : decode cX4_pass 83 = .ok (.if_icmp .eq 48, 3) := by decide +kernel
theorem dX4_pass_86 : decode cX4_pass 86 = .ok (.aload_n 0, 1) := by decide +kernel
theorem dX4_pass_87 : decode cX4_pass 87 = .ok (.getfield 76, 3) := by decide +kernel
theorem dX4_pass_90 : decode cX4_pass 90 = .ok (.aload_n 0, 1) := by decide +kernel
theorem dX4_pass_91 : decode cX4_pass 91 = .ok (.getfield 22, 3) := by decide +kernel
theorem dX4_pass_94 : decode cX4_pass 94 = .ok (.iload 5, 2) := by decide +kernel
theorem dX4_pass_96 : decode cX4_pass 96 = .ok (.iaload, 1) := by decide +kernel
theorem dX4_pass_97 : decode cX4_pass 97 = .ok (.bipush 14, 2) := by decide +kernel
theorem dX4_pass_99 : decode cX4_pass 99 = .ok (.iadd, 1) := by decide +kernel
theorem dX4_pass_100 : decode cX4_pass 100 = .ok (.if_icmp .le 31, 3) := by decide +kernel
theorem dX4_pass_103 : decode cX4_pass 103 = .ok (.aload_n 0, 1) := by decide +kernel
theorem dX4_pass_104 : decode cX4_pass 104 = .ok (.dup, 1) := by decide +kernel
theorem dX4_pass_105 : decode cX4_pass 105 = .ok (.getfield 94, 3) := by decide +kernel
theorem dX4_pass_108 : decode cX4_pass 108 = .ok (.aload_n 0, 1) := by decide +kernel
theorem dX4_pass_109 : decode cX4_pass 109 = .ok (.getfield 13, 3) := by decide +kernel
theorem dX4_pass_112 : decode cX4_pass 112 = .ok (.iload 5, 2) := by decide +kernel
theorem dX4_pass_114 : decode cX4_pass 114 = .ok (.iaload, 1) := by decide +kernel
theorem dX4_pass_115 : decode cX4_pass 115 = .ok (.iadd, 1) := by decide +kernel
theorem dX4_pass_116 : decode cX4_pass 116 = .ok (.putfield 94, 3) := by decide +kernel
theorem dX4_pass_119 : decode cX4_pass 119 = .ok (.aload_n 0, 1) := by decide +kernel
theorem dX4_pass_120 : decode cX4_pass 120 = .ok (.iload 5, 2) := by decide +kernel
theorem dX4_pass_122 : decode cX4_pass 122 = .ok (.invokevirtual 91, 3) := by decide +kernel
theorem dX4_pass_125 : decode cX4_pass 125 = .ok (.iinc 3 1, 3) := by decide +kernel
theorem dX4_pass_128 : decode cX4_pass 128 = .ok (.goto (-62), 3) := by decide +kernel
theorem dX4_pass_131 : decode cX4_pass 131 = .ok (.iinc 5 1, 3) := by decide +kernel
theorem dX4_pass_134 : decode cX4_pass 134 = .ok (.goto (-68), 3) := by decide +kernel
theorem dX4_pass_137 : decode cX4_pass 137 = .ok (.iinc 4 1, 3) := by decide +kernel
theorem dX4_pass_140 : decode cX4_pass 140 = .ok (.goto (-93), 3) := by decide +kernel
theorem dX4_pass_143 : decode cX4_pass 143 = .ok (.iload_n 3, 1) := by decide +kernel
theorem dX4_pass_144 : decode cX4_pass 144 = .ok (.ireturn, 1) := by decide +kernel
theorem dX4_today_0 : decode cX4_today 0 = .ok (.aload_n 0, 1) := by decide +kernel
theorem dX4_today_1 : decode cX4_today 1 = .ok (.iconst 0, 1) := by decide +kernel
theorem dX4_today_2 : decode cX4_today 2 = .ok (.putfield 35, 3) := by decide +kernel
theorem dX4_today_5 : decode cX4_today 5 = .ok (.aload_n 0, 1) := by decide +kernel
theorem dX4_today_6 : decode cX4_today 6 = .ok (.getfield 76, 3) := by decide +kernel
theorem dX4_today_9 : decode cX4_today 9 = .ok (.ireturn, 1) := by decide +kernel
theorem dX4_pages_0 : decode cX4_pages 0 = .ok (.aload_n 0, 1) := by decide +kernel
theorem dX4_pages_1 : decode cX4_pages 1 = .ok (.iconst 0, 1) := by decide +kernel
theorem dX4_pages_2 : decode cX4_pages 2 = .ok (.putfield 35, 3) := by decide +kernel
theorem dX4_pages_5 : decode cX4_pages 5 = .ok (.aload_n 0, 1) := by decide +kernel
theorem dX4_pages_6 : decode cX4_pages 6 = .ok (.getfield 45, 3) := by decide +kernel
theorem dX4_pages_9 : decode cX4_pages 9 = .ok (.ireturn, 1) := by decide +kernel
set_option maxRecDepth 20000 in
theorem ggX4_isPage_X4_in : GoodIn wsX4_isPage wsX4_in := goodIn_r _ [5] (by decide +kernel) (by decide +kernel)
set_option maxRecDepth 20000 in
theorem gX4_isPage_X4_in : GoodIn wsX4_isPage (va_wsS RX4 38 yX4_in wsX4_in) := goodIn_app (goodIn_of _ (by decide +kernel)) ggX4_isPage_X4_in
theorem dX4_isPage_0 : decode cX4_isPage 0 = .ok (.iload_n 1, 1) := by decide +kernel
theorem dX4_isPage_1 : decode cX4_isPage 1 = .ok (.iconst 0, 1) := by decide +kernel
theorem dX4_isPage_2 : decode cX4_isPage 2 = .ok (.aload_n 0, 1) := by decide +kernel
theorem dX4_isPage_3 : decode cX4_isPage 3 = .ok (.getfield 45, 3) := by decide +kernel
theorem dX4_isPage_6 : decode cX4_isPage 6 = .ok (.iconst 1, 1) := by decide +kernel
theorem dX4_isPage_7 : decode cX4_isPage 7 = .ok (.isub, 1) := by decide +kernel
theorem dX4_isPage_8 : decode cX4_isPage 8 = .ok (.invokestatic 38, 3) := by decide +kernel
theorem dX4_isPage_11 : decode cX4_isPage 11 = .ok (.ireturn, 1) := by decide +kernel
set_option maxRecDepth 20000 in
theorem ggX4_size_X4_isPage : GoodIn wsX4_size wsX4_isPage := goodIn_r _ [6, 7, 8, 9, 5, 10, 16, 17, 18, 19, 20, 21, 22, 23, 24, 25, 26, 27, 28, 29] (by decide +kernel) (by decide +kernel)
set_option maxRecDepth 20000 in
theorem gX4_size_X4_isPage : GoodIn wsX4_size (wsV RX4 97 RX4 yX4_isPage wsX4_isPage) := goodIn_app (goodIn_of _ (by decide +kernel)) ggX4_size_X4_isPage
set_option maxRecDepth 20000 in
theorem ggX4_size_X4_goesWell : GoodIn wsX4_size wsX4_goesWell := goodIn_r _ [14, 15, 16, 17, 18, 19, 20, 21, 22, 23, 24, 25, 26, 27, 28, 29] (by decide +kernel) (by decide +kernel)
set_option maxRecDepth 20000 in
theorem gX4_size_X4_goesWell : GoodIn wsX4_size (wsV RX4 63 RX4 yX4_goesWell wsX4_goesWell) := goodIn_app (goodIn_of _ (by decide +kernel)) ggX4_size_X4_goesWell
theorem dX4_size_0 : decode cX4_size 0 = .ok (.aload_n 0, 1) := by decide +kernel
theorem dX4_size_1 : decode cX4_size 1 = .ok (.aload_n 0, 1) := by decide +kernel
theorem dX4_size_2 : decode cX4_size 2 = .ok (.iload_n 1, 1) := by decide +kernel
theorem dX4_size_3 : decode cX4_size 3 = .ok (.invokevirtual 97, 3) := by decide +kernel
theorem dX4_size_6 : decode cX4_size 6 = .ok (.ifCond .eq 7, 3) := by decide +kernel
theorem dX4_size_9 : decode cX4_size 9 = .ok (.iconst 0, 1) := by decide +kernel
theorem dX4_size_10 : decode cX4_size 10 = .ok (.goto 4, 3) := by decide +kernel
theorem dX4_size_13 : decode cX4_size 13 = .ok (.iconst 1, 1) := by decide +kernel
theorem dX4_size_14 : decode cX4_size 14 = .ok (.invokevirtual 63, 3) := by decide +kernel
theorem dX4_size_17 : decode cX4_size 17 = .ok (.ifCond .eq 12, 3) := by decide +kernel
theorem dX4_size_20 : decode cX4_size 20 = .ok (.aload_n 0, 1) := by decide +kernel
theorem dX4_size_21 : decode cX4_size 21 = .ok (.getfield 25, 3) := by decide +kernel
theorem dX4_size_24 : decode cX4_size 24 = .ok (.iload_n 1, 1) := by decide +kernel
theorem dX4_size_25 : decode cX4_size 25 = .ok (.iaload, 1) := by decide +kernel
theorem dX4_size_26 : decode cX4_size 26 = .ok (.goto 4, 3) := by decide +kernel
theorem dX4_size_29 : decode cX4_size 29 = .ok (.iconst 0, 1) := by decide +kernel
theorem dX4_size_30 : decode cX4_size 30 = .ok (.ireturn, 1) := by decide +kernel
set_option maxRecDepth 20000 in
theorem ggX4_at_X4_isPage : GoodIn wsX4_at wsX4_isPage := goodIn_r _ [7, 8, 9, 10, 6, 11, 21, 22, 23, 24, 25, 26, 27, 28, 29, 30, 31, 32, 33, 34] (by decide +kernel) (by decide +kernel)
set_option maxRecDepth 20000 in
theorem gX4_at_X4_isPage : GoodIn wsX4_at (wsV RX4 97 RX4 yX4_isPage wsX4_isPage) := goodIn_app (goodIn_of _ (by decide +kernel)) ggX4_at_X4_isPage
set_option maxRecDepth 20000 in
theorem ggX4_at_X4_in : GoodIn wsX4_at wsX4_in := goodIn_r _ [11] (by decide +kernel) (by decide +kernel)
set_option maxRecDepth 20000 in
theorem gX4_at_X4_in : GoodIn wsX4_at (va_wsS RX4 38 yX4_in wsX4_in) := goodIn_app (goodIn_of _ (by decide +kernel)) ggX4_at_X4_in
set_option maxRecDepth 20000 in
theorem ggX4_at_X4_goesWell : GoodIn wsX4_at wsX4_goesWell := goodIn_r _ [15, 16, 21, 22, 23, 24, 25, 26, 27, 28, 29, 30, 31, 32, 33, 34] (by decide +kernel) (by decide +kernel)
set_option maxRecDepth 20000 in
theorem gX4_at_X4_goesWell : GoodIn wsX4_at (wsV RX4 63 RX4 yX4_goesWell wsX4_goesWell) := goodIn_app (goodIn_of _ (by decide +kernel)) ggX4_at_X4_goesWell
set_option maxRecDepth 20000 in
theorem ggX4_at_X4_beginOf : GoodIn wsX4_at wsX4_beginOf := goodIn_r _ [20, 1, 21, 22, 23, 24, 25, 26, 27, 28, 29, 30, 31, 32, 33, 34] (by decide +kernel) (by decide +kernel)
set_option maxRecDepth 20000 in
theorem gX4_at_X4_beginOf : GoodIn wsX4_at (wsV RX4 48 RX4 yX4_beginOf wsX4_beginOf) := goodIn_app (goodIn_of _ (by decide +kernel)) ggX4_at_X4_beginOf
theorem dX4_at_0 : decode cX4_at 0 = .ok (.aload_n 0, 1) := by decide +kernel
theorem dX4_at_1 : decode cX4_at 1 = .ok (.iload_n 1, 1) := by decide +kernel
theorem dX4_at_2 : decode cX4_at 2 = .ok (.invokevirtual 97, 3) := by decide +kernel
theorem dX4_at_5 : decode cX4_at 5 = .ok (.ifCond .eq 23, 3) := by decide +kernel
theorem dX4_at_8 : decode cX4_at 8 = .ok (.iload_n 2, 1) := by decide +kernel
theorem dX4_at_9 : decode cX4_at 9 = .ok (.iconst 0, 1) := by decide +kernel
theorem dX4_at_10 : decode cX4_at 10 = .ok (.aload_n 0, 1) := by decide +kernel
theorem dX4_at_11 : decode cX4_at 11 = .ok (.getfield 25, 3) := by decide +kernel
theorem dX4_at_14 : decode cX4_at 14 = .ok (.iload_n 1, 1) := by decide +kernel
theorem dX4_at_15 : decode cX4_at 15 = .ok (.iaload, 1) := by decide +kernel
theorem dX4_at_16 : decode cX4_at 16 = .ok (.iconst 1, 1) := by decide +kernel
theorem dX4_at_17 : decode cX4_at 17 = .ok (.isub, 1) := by decide +kernel
theorem dX4_at_18 : decode cX4_at 18 = .ok (.invokestatic 38, 3) := by decide +kernel
theorem dX4_at_21 : decode cX4_at 21 = .ok (.ifCond .eq 7, 3) := by decide +kernel
theorem dX4_at_24 : decode cX4_at 24 = .ok (.iconst 1, 1) := by decide +kernel
theorem dX4_at_25 : decode cX4_at 25 = .ok (.goto 4, 3) := by decide +kernel
theorem dX4_at_28 : decode cX4_at 28 = .ok (.iconst 0, 1) := by decide +kernel
theorem dX4_at_29 : decode cX4_at 29 = .ok (.istore_n 3, 1) := by decide +kernel
theorem dX4_at_30 : decode cX4_at 30 = .ok (.aload_n 0, 1) := by decide +kernel
theorem dX4_at_31 : decode cX4_at 31 = .ok (.iload_n 3, 1) := by decide +kernel
theorem dX4_at_32 : decode cX4_at 32 = .ok (.ifCond .eq 7, 3) := by decide +kernel
theorem dX4_at_35 : decode cX4_at 35 = .ok (.iconst 0, 1) := by decide +kernel
theorem dX4_at_36 : decode cX4_at 36 = .ok (.goto 4, 3) := by decide +kernel
theorem dX4_at_39 : decode cX4_at 39 = .ok (.iconst 1, 1) := by decide +kernel
theorem dX4_at_40 : decode cX4_at 40 = .ok (.invokevirtual 63, 3) := by decide +kernel
theorem dX4_at_43 : decode cX4_at 43 = .ok (.ifCond .eq 18, 3) := by decide +kernel
theorem dX4_at_46 : decode cX4_at 46 = .ok (.aload_n 0, 1) := by decide +kernel
theorem dX4_at_47 : decode cX4_at 47 = .ok (.getfield 7, 3) := by decide +kernel
theorem dX4_at_50 : decode cX4_at 50 = .ok (.aload_n 0, 1) := by decide +kernel
theorem dX4_at_51 : decode cX4_at 51 = .ok (.iload_n 1, 1) := by decide +kernel
theorem dX4_at_52 : decode cX4_at 52 = .ok (.invokevirtual 48, 3) := by decide +kernel
theorem dX4_at_55 : decode cX4_at 55 = .ok (.iload_n 2, 1) := by decide +kernel
theorem dX4_at_56 : decode cX4_at 56 = .ok (.iadd, 1) := by decide +kernel
theorem dX4_at_57 : decode cX4_at 57 = .ok (.iaload, 1) := by decide +kernel
theorem dX4_at_58 : decode cX4_at 58 = .ok (.goto 4, 3) := by decide +kernel
theorem dX4_at_61 : decode cX4_at 61 = .ok (.iconst 0, 1) := by decide +kernel
theorem dX4_at_62 : decode cX4_at 62 = .ok (.ireturn, 1) := by decide +kernel
set_option maxRecDepth 20000 in
theorem ggX4_pageOf_X4_isCase : GoodIn wsX4_pageOf wsX4_isCase := goodIn_r _ [4, 5, 6, 3, 7] (by decide +kernel) (by decide +kernel)
set_option maxRecDepth 20000 in
theorem gX4_pageOf_X4_isCase : GoodIn wsX4_pageOf (va_wsS RX4 56 yX4_isCase wsX4_isCase) := goodIn_app (goodIn_of _ (by decide +kernel)) ggX4_pageOf_X4_isCase
set_option maxRecDepth 20000 in
theorem ggX4_pageOf_X4_goesWell : GoodIn wsX4_pageOf wsX4_goesWell := goodIn_r _ [11, 12, 24, 25, 26, 27, 28, 29, 30, 31, 32, 33, 34, 35, 36, 37] (by decide +kernel) (by decide +kernel)
set_option maxRecDepth 20000 in
theorem gX4_pageOf_X4_goesWell : GoodIn wsX4_pageOf (wsV RX4 63 RX4 yX4_goesWell wsX4_goesWell) := goodIn_app (goodIn_of _ (by decide +kernel)) ggX4_pageOf_X4_goesWell
set_option maxRecDepth 20000 in
theorem ggX4_pageOf_X4_find : GoodIn wsX4_pageOf wsX4_find := goodIn_r _ [16, 17, 18, 24, 25, 26, 27, 28, 29, 30, 31, 32, 33, 34, 35, 36, 37] (by decide +kernel) (by decide +kernel)
set_option maxRecDepth 20000 in
theorem gX4_pageOf_X4_find : GoodIn wsX4_pageOf (wsV RX4 60 RX4 yX4_find wsX4_find) := goodIn_app (goodIn_of _ (by decide +kernel)) ggX4_pageOf_X4_find
set_option maxRecDepth 20000 in
theorem ggX4_pageOf_X4_pageAt : GoodIn wsX4_pageOf wsX4_pageAt := goodIn_r _ [22, 23, 24, 25, 26, 27, 28, 29, 30, 31, 32, 33, 34, 35, 36, 37] (by decide +kernel) (by decide +kernel)
set_option maxRecDepth 20000 in
theorem gX4_pageOf_X4_pageAt : GoodIn wsX4_pageOf (wsV RX4 82 RX4 yX4_pageAt wsX4_pageAt) := goodIn_app (goodIn_of _ (by decide +kernel)) ggX4_pageOf_X4_pageAt
theorem dX4_pageOf_0 : decode cX4_pageOf 0 = .ok (.aload_n 0, 1) := by decide +kernel
theorem dX4_pageOf_1 : decode cX4_pageOf 1 = .ok (.iload_n 1, 1) := by decide +kernel
theorem dX4_pageOf_2 : decode cX4_pageOf 2 = .ok (.invokestatic 56, 3) := by decide +kernel
theorem dX4_pageOf_5 : decode cX4_pageOf 5 = .ok (.ifCond .eq 7, 3) := by decide +kernel
theorem dX4_pageOf_8 : decode cX4_pageOf 8 = .ok (.iconst 0, 1) := by decide +kernel
theorem dX4_pageOf_9 : decode cX4_pageOf 9 = .ok (.goto 4, 3) := by decide +kernel
theorem dX4_pageOf_12 : decode cX4_pageOf 12 = .ok (.iconst 1, 1) := by decide +kernel
theorem dX4_pageOf_13 : decode cX4_pageOf 13 = .ok (.invokevirtual 63, 3) := by decide +kernel
theorem dX4_pageOf_16 : decode cX4_pageOf 16 = .ok (.ifCond .ne 5, 3) := by decide +kernel
theorem dX4_pageOf_19 : decode cX4_pageOf 19 = .ok (.iconst 0, 1) := by decide +kernel
theorem dX4_pageOf_20 : decode cX4_pageOf 20 = .ok (.ireturn, 1) := by decide +kernel
theorem dX4_pageOf_21 : decode cX4_pageOf 21 = .ok (.aload_n 0, 1) := by decide +kernel
theorem dX4_pageOf_22 : decode cX4_pageOf 22 = .ok (.iload_n 1, 1) := by decide +kernel
theorem dX4_pageOf_23 : decode cX4_pageOf 23 = .ok (.invokevirtual 60, 3) := by decide +kernel
theorem dX4_pageOf_26 : decode cX4_pageOf 26 = .ok (.istore_n 2, 1) := by decide +kernel
theorem dX4_pageOf_27 : decode cX4_pageOf 27 = .ok (.iload_n 2, 1) := by decide +kernel
theorem dX4_pageOf_28 : decode cX4_pageOf 28 = .ok (.iconst (-1), 1) := by decide +kernel
theorem dX4_pageOf_29 : decode cX4_pageOf 29 = .ok (.if_icmp .ne 7, 3) := by decide +kernel
theorem dX4_pageOf_32 : decode cX4_pageOf 32 = .ok (.iconst (-1), 1) := by decide +kernel
theorem dX4_pageOf_33 : decode cX4_pageOf 33 = .ok (.goto 8, 3) := by decide +kernel
theorem dX4_pageOf_36 : decode cX4_pageOf 36 = .ok (.aload_n 0, 1) := by decide +kernel
theorem dX4_pageOf_37 : decode cX4_pageOf 37 = .ok (.iload_n 2, 1) := by decide +kernel
theorem dX4_pageOf_38 : decode cX4_pageOf 38 = .ok (.invokevirtual 82, 3) := by decide +kernel
theorem dX4_pageOf_41 : decode cX4_pageOf 41 = .ok (.ireturn, 1) := by decide +kernel
set_option maxRecDepth 20000 in
theorem ggX4_sweep_X4_goesWell : GoodIn wsX4_sweep wsX4_goesWell := goodIn_r _ [6, 7, 8, 9, 10, 11, 12, 13, 14, 15, 16, 17, 18, 19, 20, 21] (by decide +kernel) (by decide +kernel)
set_option maxRecDepth 20000 in
theorem gX4_sweep_X4_goesWell : GoodIn wsX4_sweep (wsV RX4 63 RX4 yX4_goesWell wsX4_goesWell) := goodIn_app (goodIn_of _ (by decide +kernel)) ggX4_sweep_X4_goesWell
theorem dX4_sweep_0 : decode cX4_sweep 0 = .ok (.aload_n 0, 1) := by decide +kernel
theorem dX4_sweep_1 : decode cX4_sweep 1 = .ok (.aload_n 0, 1) := by decide +kernel
theorem dX4_sweep_2 : decode cX4_sweep 2 = .ok (.getfield 28, 3) := by decide +kernel
theorem dX4_sweep_5 : decode cX4_sweep 5 = .ok (.iconst (-1), 1) := by decide +kernel
theorem dX4_sweep_6 : decode cX4_sweep 6 = .ok (.if_icmp .ne 7, 3) := by decide +kernel
theorem dX4_sweep_9 : decode cX4_sweep 9 = .ok (.iconst 0, 1) := by decide +kernel
theorem dX4_sweep_10 : decode cX4_sweep 10 = .ok (.goto 4, 3) := by decide +kernel
theorem dX4_sweep_13 : decode cX4_sweep 13 = .ok (.iconst 1, 1) := by decide +kernel
theorem dX4_sweep_14 : decode cX4_sweep 14 = .ok (.invokevirtual 63, 3) := by decide +kernel
theorem dX4_sweep_17 : decode cX4_sweep 17 = .ok (.ifCond .eq 8, 3) := by decide +kernel
theorem dX4_sweep_20 : decode cX4_sweep 20 = .ok (.aload_n 0, 1) := by decide +kernel
theorem dX4_sweep_21 : decode cX4_sweep 21 = .ok (.iconst 0, 1) := by decide +kernel
theorem dX4_sweep_22 : decode cX4_sweep 22 = .ok (.putfield 28, 3) := by decide +kernel
theorem dX4_sweep_25 : decode cX4_sweep 25 = .ok (.return_, 1) := by decide +kernel
